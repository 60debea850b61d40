import java.util.ArrayList;
import java.util.Arrays;
import java.util.List;

/** Term I at its edges: blanks, names, numbers, limits of each statement, and the five faults at their places. */
public final class LanguageEdgeTest {
    private static final List<String> OWN_WORDS = List.of("product", "triangle", "against", "pair", "look", "below", "in",
        "ties", "half", "drop", "lose", "scale", "own", "raw", "reference", "claim", "when", "or", "and", "not", "open",
        "right", "wrong", "tied", "chance", "least", "most", "mean", "drift", "min", "max", "stopped");
    private static final String[] OF_TRIAL = {"right", "wrong", "tied", "chance", "least", "most"};
    private static final String SIX = "product a;product b;product c;product d;product e;product f;";

    public static void main(String[] args) {
        onlyTwoBytesAreBlanks();
        wordsAndNumbersNeedABlank();
        signsNeedNone();
        sixProducts();
        fourTrials();
        trialsOfUnlikeProductsToldAhead();
        lookWithoutTrial();
        lookAnswers();
        lookMoreThanBefore();
        lookNumbers();
        fiveLooksEach();
        eightClaims();
        namesOfOneToSixLetters();
        lettersAndTheirNeighbours();
        ownWordsAreNoNames();
        nearlyOwnWordsAreNames();
        namesAllTogether();
        namesOfProductsAsked();
        numbersOfOneToFourDigits();
        numbersOfTrials();
        numbersOfSessions();
        sixOpenAtOnce();
        notIsOpenUntilItsFactEnds();
        closedOnesAreNotOpen();
        textEndsTooSoon();
        wrongTokenEverywhere();
        statementsCutShort();
        everyTokenEverywhere();
        wordsWholeAtTheirFirstByte();
        firstFaultAlongTheText();
        Check.end();
    }

    /** "a text with blanks (10, 32) between where one likes" */
    private static void onlyTwoBytesAreBlanks() {
        for (int sign = 0; sign < 256; sign++) {
            if (sign == '^') {
                continue;
            }
            if (sign == 10 || sign == 32) {
                Edge.goes("product" + (char) sign + "a" + (char) sign + ";" + (char) sign, 1);
                Edge.goes((char) sign + "ties half;", 1);
            } else {
                Edge.faulty(1, "product a;^" + (char) sign);
                Edge.faulty(1, "^" + (char) sign + ";");
            }
        }
        Edge.goes("\n \n product\n\na\n;\n\n", 1);
    }

    /** "(words and numbers side by side need one)" */
    private static void wordsAndNumbersNeedABlank() {
        Edge.goes(Edge.TRIANGLE + "look 5 below 1 in 2;claim c when stopped 0 and 1=1 or right 0=1;", 5);
        Edge.faulty(1, Edge.TRIANGLE + "look^5 below 1 in 2;");
        Edge.faulty(1, Edge.TRIANGLE + "look 5^below 1 in 2;");
        Edge.faulty(1, Edge.TRIANGLE + "look 5 below^1 in 2;");
        Edge.faulty(1, Edge.TRIANGLE + "look 5 below 1^in 2;");
        Edge.faulty(1, Edge.TRIANGLE + "look 5 below 1 in^2;");
        Edge.faulty(1, Edge.TRIANGLE + "claim c when stopped^0;");
        Edge.faulty(1, Edge.TRIANGLE + "claim c when stopped 0^and 1=1;");
        Edge.faulty(1, Edge.TRIANGLE + "claim c when stopped 0 and^1=1;");
        Edge.faulty(1, Edge.TRIANGLE + "claim c when right^0=1;");
        Edge.faulty(1, "claim c when^1=1;");
        Edge.faulty(1, "claim c when not^1=1;");
        Edge.faulty(1, "claim c when 1=1^or 1=1;");
        Edge.faulty(1, "claim c when drift^0=0;");
        Edge.faulty(1, "product a^1;");
    }

    private static void signsNeedNone() {
        Edge.goes("claim c when[not[1=1]]and(1)+2*min(3,4)/max(5,6)-7<8 or not(1)>2;", 1);
        Edge.goes(" claim c when [ not [ 1 = 1 ] ] and ( 1 ) + 2 * min ( 3 , 4 ) / max ( 5 , 6 ) - 7 < 8 ; ", 1);
    }

    /** "product NAME (6 at most)", "5 a 7th PRODUCT .. at its first byte" */
    private static void sixProducts() {
        TastingHouse five = Check.planned(0, SIX.substring(0, 50), 5);
        Check.due("five", five.all(0), 5);
        TastingHouse six = Check.planned(0, SIX, 6);
        Check.due("six", six.all(0), 6);
        Check.due("the sixth has scores", six.score(0, 0, 5, 1), 1);
        Check.due("a seventh has none", six.score(0, 0, 6, 1), -1);
        Edge.faulty(5, SIX + "^product g;");
        Edge.faulty(5, SIX + " \n^product g;");
        Edge.faulty(5, SIX + "^product a;");
        Edge.faulty(5, SIX + "^product");
        Edge.faulty(5, SIX + "^product product;");
        Edge.faulty(1, SIX + "^productx g;");
    }

    /** "a TRIAL of the first and the second (4 at most, numbered from 0 on)", "5th TRIAL" */
    private static void fourTrials() {
        String[] kinds = {"pair", "triangle"};
        for (String kind : kinds) {
            String three = Edge.TWO + "pair a against b;triangle b against a;" + kind + " a against b;";
            TastingHouse house = Check.planned(1, three, 5);
            Check.due("three", house.all(1), 3);
            Check.due("no fourth", house.code(3, 0, 0), -1);
            String four = three + kind + " b against a;";
            house = Check.planned(1, four, 6);
            Check.due("four", house.all(1), 4);
            Check.due("the fourth has codes", house.code(3, 0, 0), house.code(0, 0, 0));
            Check.due("the fourth is of its kind", house.code(3, 0, 2) != -1, kind.equals("triangle"));
            for (String fifth : kinds) {
                Edge.faulty(5, four + "^" + fifth + " a against b;");
                Edge.faulty(5, four + "^" + fifth + " a against a;");
                Edge.faulty(5, four + "^" + fifth);
            }
            Edge.goes(four + "product c;look 1 below 1 in 1;", 8);
        }
    }

    /** "(unlike PRODUCTS told ahead)", "3 .. (or the same one twice)" */
    private static void trialsOfUnlikeProductsToldAhead() {
        for (String kind : new String[] {"pair ", "triangle "}) {
            Edge.goes(Edge.TWO + kind + "b against a;", 3);
            Edge.faulty(3, Edge.TWO + kind + "a against ^a;");
            Edge.faulty(3, Edge.TWO + kind + "b against ^b;");
            Edge.faulty(3, Edge.TWO + kind + "^c against a;product c;");
            Edge.faulty(3, Edge.TWO + kind + "a against ^c;product c;");
            Edge.faulty(3, kind + "^a against a;");
            Edge.faulty(3, "claim c when 1=1;product a;" + kind + "a against ^c;");
            Edge.faulty(3, "claim c when 1=1;product a;" + kind + "^c against a;");
        }
    }

    /** "a look without a TRIAL at its word" */
    private static void lookWithoutTrial() {
        Edge.faulty(1, "^look 5 below 1 in 2;");
        Edge.faulty(1, Edge.TWO + " ^look 5 below 1 in 2;");
        Edge.faulty(1, Edge.TWO + "^look 0 below 1 in 2;pair a against b;");
        Edge.faulty(1, "^look");
        Edge.goes(Edge.PAIR + "ties half;product c;look 5 below 1 in 2;", 6);
    }

    /** "behind so many ANSWERS (1 .. 30 ..)" */
    private static void lookAnswers() {
        for (String good : new String[] {"1", "2", "29", "30", "0001", "0030"}) {
            Edge.goes(Edge.PAIR + "look " + good + " below 1 in 2;", 4);
        }
        for (String bad : new String[] {"0", "31", "0000", "0031", "100", "9999"}) {
            Edge.faulty(2, Edge.PAIR + "look ^" + bad + " below 1 in 2;");
        }
    }

    /** "more than at its LOOK before": of the same TRIAL only. */
    private static void lookMoreThanBefore() {
        Edge.goes(Edge.PAIR + "look 7 below 1 in 2;look 8 below 1 in 2;", 5);
        Edge.faulty(2, Edge.PAIR + "look 7 below 1 in 2;look ^7 below 1 in 2;");
        Edge.faulty(2, Edge.PAIR + "look 7 below 1 in 2;look ^6 below 1 in 2;");
        Edge.faulty(2, Edge.PAIR + "look 7 below 1 in 2;look 9 below 1 in 2;look ^8 below 1 in 2;");
        Edge.goes(Edge.PAIR + "look 29 below 1 in 2;look 30 below 1 in 2;", 5);
        Edge.faulty(2, Edge.PAIR + "look 30 below 1 in 2;look ^31 below 1 in 2;");
        Edge.faulty(2, Edge.PAIR + "look 30 below 1 in 2;look ^30 below 1 in 2;");
        Edge.goes(Edge.PAIR + "look 30 below 1 in 2;pair a against b;look 1 below 1 in 2;", 6);
    }

    /** "the first in the second number (1 .. 1000, the first not above ..)" */
    private static void lookNumbers() {
        String look = Edge.PAIR + "look 5 below ";
        for (String good : new String[] {"1 in 1", "1 in 2", "1 in 1000", "999 in 1000", "1000 in 1000", "500 in 500"}) {
            Edge.goes(look + good + ";", 4);
        }
        Edge.faulty(2, look + "^0 in 1;");
        Edge.faulty(2, look + "^0 in 0;");
        Edge.faulty(2, look + "^1001 in 1001;");
        Edge.faulty(2, look + "^9999 in 1;");
        Edge.faulty(2, look + "1 in ^0;");
        Edge.faulty(2, look + "1 in ^1001;");
        Edge.faulty(2, look + "1000 in ^1001;");
        Edge.faulty(2, look + "1000 in ^999;");
        Edge.faulty(2, look + "2 in ^1;");
        Edge.faulty(2, look + "501 in ^500;");
    }

    /** "5 at most each", "6th LOOK of one, at its first byte" */
    private static void fiveLooksEach() {
        StringBuilder looks = new StringBuilder();
        for (int look = 1; look <= 5; look++) {
            Edge.goes(Edge.PAIR + looks, 2 + look);
            looks.append("look ").append(look).append(" below 1 in 2;");
        }
        TastingHouse house = Check.planned(0, Edge.PAIR + looks, 8);
        Check.due("five looks", house.all(6), 5);
        Edge.faulty(5, Edge.PAIR + looks + "^look 6 below 1 in 2;");
        Edge.faulty(5, Edge.PAIR + looks + "^look 5 below 1 in 2;");
        Edge.faulty(5, Edge.PAIR + looks + "ties half;\n^look");
        String trial = "triangle a against b;" + looks;
        house = Check.planned(0, Edge.PAIR + looks + trial + trial + trial, 26);
        Check.due("five looks each", house.all(6), 20);
        Edge.faulty(5, Edge.PAIR + trial + "^look 6 below 1 in 2;");
    }

    /** "claim NAME when TEST (8 at most)", "9th CLAIM, at its first byte" */
    private static void eightClaims() {
        StringBuilder claims = new StringBuilder();
        for (char name = 'p'; name < 'p' + 8; name++) {
            claims.append("claim ").append(name).append(" when 1=1;");
        }
        String eight = claims.toString();
        TastingHouse house = Check.planned(0, eight.substring(0, eight.length() * 7 / 8), 7);
        house.open();
        Check.due("the seventh", house.claim(6), 1);
        Check.due("no eighth", house.claim(7), -1);
        house = Check.planned(0, eight, 8);
        house.open();
        Check.due("eight", house.all(2), 8);
        Check.due("the eighth", house.claim(7), 1);
        Check.due("no ninth", house.claim(8), -1);
        Edge.faulty(5, eight + "^claim a when 1=1;");
        Edge.faulty(5, eight + "^claim p when 1=1;");
        Edge.faulty(5, eight + " ^claim");
        Edge.goes(eight + SIX, 14);
    }

    /** "NAMES: 1 to 6 letters", "a 7th letter of what is no OWN WORD at itself" */
    private static void namesOfOneToSixLetters() {
        for (String good : new String[] {"a", "ab", "abcde", "abcdef"}) {
            Edge.goes("product " + good + ";reference " + good + ";claim x when mean " + good + "=0;", 3);
            Edge.goes("claim " + good + " when 1=1;", 1);
        }
        Edge.faulty(1, "product abcdef^g;");
        Edge.faulty(1, "product abcdef^ghijklmnop;");
        Edge.faulty(1, "claim abcdef^g when 1=1;");
        Edge.faulty(1, "product abcdef;reference abcdef^g;");
        Edge.faulty(1, "product abcdef;pair abcdef^g against abcdef;");
        Edge.faulty(1, "product abcdef;product b;pair b against abcdef^g;");
        Edge.faulty(1, "product abcdef;claim x when mean abcdef^g=0;");
        Edge.faulty(1, "product ^;");
        Edge.faulty(1, "product ^1;");
        Edge.faulty(1, "product ^12345;");
        Edge.faulty(3, "product abcdef;product ^abcdef;");
        Edge.goes("product abcdef;product abcdeg;product bbcdef;product abcde;product bcdef;", 5);
    }

    private static void lettersAndTheirNeighbours() {
        for (char letter = 'a'; letter <= 'z'; letter++) {
            Edge.goes("product " + letter + ";product " + (char) (letter - 32) + ";", 2);
        }
        for (char sign : new char[] {'`', '{', '@', '[', '_', '/', ':', (char) 225, (char) 193, (char) 0}) {
            Edge.faulty(1, "product ^" + sign + ";");
            Edge.faulty(1, "product a^" + sign + ";");
            Edge.faulty(1, Edge.PAIR + "look ^" + sign + " below 1 in 2;");
            Edge.faulty(1, Edge.PAIR + "look 1^" + sign + " below 1 in 2;");
        }
    }

    /** "no OWN WORD", "an OWN WORD where a NAME must be" (at its first byte, long ones too) */
    private static void ownWordsAreNoNames() {
        Check.due("own words", OWN_WORDS.size(), 32);
        for (String word : OWN_WORDS) {
            Edge.faulty(1, "product ^" + word + ";");
            Edge.faulty(1, "claim ^" + word + " when 1=1;");
            Edge.faulty(1, "reference ^" + word + ";");
            Edge.faulty(1, "product a;pair ^" + word + " against a;");
            Edge.faulty(1, "product a;triangle a against ^" + word + ";");
            Edge.faulty(1, "claim c when mean ^" + word + "=0;");
        }
    }

    private static void nearlyOwnWordsAreNames() {
        for (String word : OWN_WORDS) {
            String[] near = {word + "x", "x" + word, word.substring(1), word.substring(0, word.length() - 1),
                word.substring(0, 1).toUpperCase() + word.substring(1), word.toUpperCase()};
            for (String name : near) {
                if (!name.isEmpty() && !OWN_WORDS.contains(name)) {
                    aName(name);
                }
            }
        }
    }

    private static void aName(String name) {
        if (name.length() <= 6) {
            Edge.goes("product " + name + ";", 1);
        } else {
            Edge.faulty(1, "product " + name.substring(0, 6) + "^" + name.substring(6) + ";");
        }
        Edge.faulty(1, "^" + name + ";");
    }

    /** "unlike ones of PRODUCTS and CLAIMS all together", "3 a NAME to be given that is there already" */
    private static void namesAllTogether() {
        Edge.goes("product a;claim b when 1=1;product c;claim d when 1=1;product A;", 5);
        Edge.faulty(3, "product a;product ^a;");
        Edge.faulty(3, "product a;product b;product ^a;");
        Edge.faulty(3, "product a;claim ^a when 1=1;");
        Edge.faulty(3, "claim a when 1=1;product ^a;");
        Edge.faulty(3, "claim a when 1=1;claim ^a when 1=1;");
        Edge.faulty(3, "claim a when 1=1;claim b when 1=1;claim ^a when 1=1;");
        Edge.faulty(3, SIX + "claim ^f when 1=1;");
        StringBuilder claims = new StringBuilder();
        for (char name = 's'; name < 's' + 8; name++) {
            claims.append("claim ").append(name).append(" when 1=1;");
        }
        Edge.faulty(3, claims + "product ^z;");
        Edge.faulty(3, claims + "product ^s;");
    }

    /** "a NAME that is no PRODUCT .. where one is asked, at it" */
    private static void namesOfProductsAsked() {
        Edge.goes("product a;reference a;claim c when mean a=0;", 3);
        Edge.faulty(3, "reference ^a;product a;");
        Edge.faulty(3, "product b;reference ^a;");
        Edge.faulty(3, "claim a when 1=1;reference ^a;");
        Edge.faulty(3, "claim c when mean ^a=0;product a;");
        Edge.faulty(3, "claim c when mean ^c=0;");
        Edge.faulty(3, "claim b when 1=1;claim c when mean ^b=0;");
        Edge.faulty(3, "product a;claim c when mean a=mean ^b;");
        Edge.faulty(3, "product Aa;reference ^aa;");
    }

    /** "NUMBER (1 to 4 digits)", "a 5th digit .. at itself", "2 a number (of 1 to 4 digits)" */
    private static void numbersOfOneToFourDigits() {
        for (String good : new String[] {"0", "9", "10", "999", "1000", "9999", "0000"}) {
            Edge.goes("claim c when " + good + "=" + good + ";", 1);
        }
        Edge.faulty(1, "claim c when 1000^0=1;");
        Edge.faulty(1, "claim c when 0000^1=1;");
        Edge.faulty(1, "claim c when 1=9999^99999;");
        Edge.faulty(1, "claim c when min(1,1000^0)=1;");
        Edge.faulty(1, "claim c when drift 0000^0=1;");
        Edge.faulty(1, "claim c when drift 9999^9=1;");
        Edge.faulty(1, Edge.PAIR + "look 0000^5 below 1 in 2;");
        Edge.faulty(1, Edge.PAIR + "look 5 below 0000^1 in 2;");
        Edge.faulty(1, Edge.PAIR + "look 5 below 1 in 1000^0;");
        Edge.faulty(1, Edge.PAIR + "claim c when stopped 0000^0;");
        Edge.faulty(1, Edge.PAIR + "claim c when right 0000^0=0;");
        Edge.faulty(1, "ties ^12345;");
        Edge.faulty(1, "^12345;");
        Edge.goes(Edge.PAIR + "claim c when right 0000=0 and drift 0009=0;", 4);
    }

    /** "(of TRIAL N, told ahead)", "2 .. (also of a TRIAL that is not there)" */
    private static void numbersOfTrials() {
        String four = Edge.PAIR + "pair a against b;triangle a against b;pair b against a;";
        for (String word : OF_TRIAL) {
            Edge.faulty(2, "claim c when " + word + " ^0=0;");
            Edge.goes(Edge.PAIR + "claim c when " + word + " 0=0;", 4);
            Edge.faulty(2, Edge.PAIR + "claim c when " + word + " ^1=0;");
            Edge.faulty(2, Edge.PAIR + "claim c when " + word + " ^1=0;pair a against b;");
            Edge.goes(four + "claim c when 0=" + word + " 3;", 7);
            Edge.faulty(2, four + "claim c when 0=" + word + " ^4;");
            Edge.faulty(2, four + "claim c when 0=" + word + " ^9999;");
            Edge.faulty(1, four + "claim c when 0=" + word + " ^a;");
            Edge.faulty(1, four + "claim c when 0=" + word + "^;");
        }
        Edge.faulty(2, "claim c when stopped ^0;");
        Edge.goes(Edge.PAIR + "claim c when stopped 0;", 4);
        Edge.faulty(2, Edge.PAIR + "claim c when stopped ^1;pair a against b;");
        Edge.goes(four + "claim c when stopped 3;", 7);
        Edge.faulty(2, four + "claim c when stopped ^4;");
    }

    /** "drift N (of SESSION N, 0 .. 9)" */
    private static void numbersOfSessions() {
        Edge.goes("claim c when drift 0=drift 9;", 1);
        Edge.faulty(2, "claim c when drift ^10=0;");
        Edge.faulty(2, "claim c when drift 0=drift ^9999;");
        Edge.faulty(1, "claim c when drift ^-1=0;");
    }

    private static String times(String text, int times) {
        StringBuilder all = new StringBuilder();
        for (int i = 0; i < times; i++) {
            all.append(text);
        }
        return all.toString();
    }

    /** "4 the 7th ( [ not that is open at once .., at it": six of each go, and six of all kinds together. */
    private static void sixOpenAtOnce() {
        for (int open = 5; open <= 6; open++) {
            Edge.goes("claim c when " + times("(", open) + "1" + times(")", open) + "=1;", 1);
            Edge.goes("claim c when 1=" + times("(", open) + "1" + times(")", open) + ";", 1);
            Edge.goes("claim c when " + times("[", open) + "1=1" + times("]", open) + ";", 1);
            Edge.goes("claim c when " + times("not ", open) + "1=1;", 1);
            Edge.goes("claim c when " + times("min(1,", open) + "1" + times(")", open) + "=1;", 1);
        }
        Edge.faulty(4, "claim c when ((((((^(1)))))))=1;");
        Edge.faulty(4, "claim c when 1=((((((^(1)))))));");
        Edge.faulty(4, "claim c when [[[[[[^[1=1]]]]]]];");
        Edge.faulty(4, "claim c when " + times("not ", 6) + "^not 1=1;");
        Edge.faulty(4, "claim c when " + times("max(1,", 6) + "max^(1,1))))))))=1;");
        Edge.faulty(4, "claim c when " + times("max(", 6) + "min ^(");
        Edge.goes("claim c when not[not[((1))=min(1,(2))]];", 1);
        Edge.faulty(4, "claim c when not[not[((^(1)))=1]];");
        Edge.faulty(4, "claim c when not[not[1=min(1,(^(2)))]];");
        Edge.faulty(4, "claim c when [[[[[[^not 1=1]]]]]];");
        Edge.faulty(4, "claim c when not not not[[[^[1=1]]]];");
        Edge.faulty(4, "claim c when [[[[[[1=^(1)]]]]]];");
        Edge.faulty(4, "claim c when [[[[[[1=1 and 1=^(1)]]]]]];");
        Edge.faulty(4, "claim c when ((((((^(");
        Edge.faulty(1, "claim c when ((((((^");
        Edge.faulty(1, "claim c when ((((((^[");
    }

    /** "(not until its FACT ends)" */
    private static void notIsOpenUntilItsFactEnds() {
        String six = times("not ", 6);
        String five = times("not ", 5);
        Edge.faulty(4, "claim c when " + six + "^(1)=1;");
        Edge.faulty(4, "claim c when " + six + "1=^(1);");
        Edge.faulty(4, "claim c when " + six + "1+^(1)=1;");
        Edge.faulty(4, "claim c when " + six + "1=1*min^(1,1);");
        Edge.faulty(4, "claim c when " + six + "^[1=1];");
        Edge.goes("claim c when " + five + "(1)=(1);", 1);
        Edge.goes("claim c when " + five + "[1=1]and " + five + "[1=1]or[[[[[[1=1]]]]]];", 1);
        Edge.goes("claim c when " + six + "1=1 and(1)=1 or " + six + "1=1;", 1);
        Edge.goes("claim c when " + six + "1=1 or not 1=1;", 1);
        Edge.goes(Edge.PAIR + "claim c when " + six + "stopped 0 and " + six + "stopped 0;", 4);
        Edge.goes("claim c when not[" + times("not ", 4) + "1=1 and " + times("not ", 4) + "1=1];", 1);
        Edge.faulty(4, "claim c when not[" + times("not ", 4) + "1=1 and " + times("not ", 4) + "^not 1=1];");
    }

    private static void closedOnesAreNotOpen() {
        Edge.goes("claim c when " + times("(1)+", 20) + "(1)=1;", 1);
        Edge.goes("claim c when " + times("[1=1]and", 20) + "[1=1];", 1);
        Edge.goes("claim c when ((((((1))))))+((((((1))))))=min(1,2)*(((((1)))));", 1);
        Edge.goes("claim c when [[[[[[1=1]]]]]]or[[[[[[1=1]]]]]];", 1);
        Edge.goes("claim c when ((((((1))))))=1;claim d when [[[[[[1=1]]]]]];claim e when " + times("not ", 6) + "1=1;", 3);
        Edge.faulty(4, "claim c when (((((1)+((1)+(^(1)))))))=1;");
    }

    private static final String[][] PLANS = {
        {"product", "a", ";", "product", "b", ";", "triangle", "a", "against", "b", ";", "look", "5", "below", "1", "in", "2",
            ";", "pair", "b", "against", "a", ";", "ties", "half", ";", "scale", "own", ";", "reference", "a", ";"},
        {"claim", "c", "when", "1", "<", "2", "or", "not", "[", "3", ">", "(", "4", "+", "5", ")", "*", "6", "and", "7",
            "=", "8", "/", "9", "]", "and", "min", "(", "1", "-", "2", ",", "3", ")", "=", "max", "(", "4", ",", "5", ")", ";"},
        {"product", "a", ";", "product", "b", ";", "pair", "a", "against", "b", ";", "claim", "c", "when", "stopped", "0",
            "and", "right", "0", "+", "wrong", "0", "-", "tied", "0", "=", "chance", "0", "*", "least", "0", "/", "most", "0",
            "or", "mean", "a", ">", "drift", "9", ";"},
    };

    private static String joined(String[] tokens, int count) {
        return String.join(" ", Arrays.copyOf(tokens, count));
    }

    /** "at the text's length, if it ends too soon" */
    private static void textEndsTooSoon() {
        for (String[] tokens : PLANS) {
            int statements = 0;
            for (int count = 1; count <= tokens.length; count++) {
                String text = joined(tokens, count);
                if (tokens[count - 1].equals(";")) {
                    statements++;
                    Edge.goes(text, statements);
                    Edge.goes(text + "\n ", statements);
                } else {
                    Edge.faulty(1, text + "^");
                    Edge.faulty(1, text + " ^");
                    Edge.faulty(1, text + "\n \n^");
                }
            }
        }
    }

    /** "1 the first byte with which no PLAN goes on" */
    private static void wrongTokenEverywhere() {
        for (String[] tokens : PLANS) {
            for (int count = 0; count <= tokens.length; count++) {
                String text = joined(tokens, count);
                for (String wrong : new String[] {"?", "open", "}", "" + (char) 255, "&", "#", "\"", ".", ":"}) {
                    Edge.faulty(1, text + " ^" + wrong);
                    Edge.faulty(1, text + " \n^" + wrong + " ;");
                }
            }
        }
    }

    /** A ; where something else is asked. */
    private static void statementsCutShort() {
        for (String cut : new String[] {"^;", "ties ^;", "scale ^;", "product ^;", "reference ^;", "pair ^;", "triangle ^;",
            "claim ^;", "claim c ^;", "claim c when ^;", "claim c when 1 ^;", "claim c when 1= ^;", "claim c when 1+ ^;",
            "claim c when 1=1* ^;", "claim c when not ^;", "claim c when [ ^;", "claim c when [1=1 ^;", "claim c when 1=1 or ^;",
            "claim c when 1=1 and ^;", "claim c when ( ^;", "claim c when (1 ^;", "claim c when (1) ^;", "claim c when min ^;",
            "claim c when min( ^;", "claim c when min(1 ^;", "claim c when max(1, ^;", "claim c when max(1,2 ^;",
            "claim c when stopped ^;", "claim c when right ^;", "claim c when mean ^;", "claim c when drift ^;"}) {
            Edge.faulty(1, cut);
            Edge.faulty(1, cut.replace(" ^", "^"));
        }
        for (String cut : new String[] {"pair a^;", "pair a against^;", "triangle b^;", "triangle b against^;"}) {
            Edge.faulty(1, Edge.TWO + cut);
        }
        for (String cut : new String[] {"look^;", "look 5^;", "look 5 below^;", "look 5 below 1^;", "look 5 below 1 in^;"}) {
            Edge.faulty(1, Edge.PAIR + cut);
        }
    }

    /** Each word and sign at each place of some plans, held against the second reading of the grammar. */
    private static void everyTokenEverywhere() {
        List<String> all = new ArrayList<>(OWN_WORDS);
        all.addAll(List.of("a", "b", "c", "x", "abcdef", "abcdefg", "productx", "0", "1", "9", "10", "30", "31", "1000", "1001",
            "9999", "10000", ";", ",", "(", ")", "[", "]", "<", ">", "=", "+", "-", "*", "/", "?", "( (", "not not", "1 = 1"));
        for (String[] tokens : PLANS) {
            for (int count = 0; count <= tokens.length; count++) {
                for (String token : all) {
                    asModel(joined(tokens, count) + " " + token);
                    asModel(joined(tokens, count) + " " + token + " ?");
                }
            }
        }
    }

    private static void asModel(String text) {
        TastingHouse house = new TastingHouse();
        Check.write(house, text);
        int statements = house.plan(0);
        ModelPlan plan = new ModelPlan();
        int fault = 0;
        int place = -1;
        try {
            plan.read(text);
        } catch (ModelPlan.Fault found) {
            fault = found.kind;
            place = found.place;
        }
        Check.due("plan of " + text, statements, fault == 0 ? plan.statements : -1);
        Check.due("fault of " + text, house.fault(0), fault);
        Check.due("place of " + text, house.fault(1), place);
    }

    /** "(words and numbers whole, at their first byte ..)" */
    private static void wordsWholeAtTheirFirstByte() {
        Edge.faulty(1, "^produc a;");
        Edge.faulty(1, "^producta;");
        Edge.faulty(1, "^prod");
        Edge.faulty(1, "^PRODUCT a;");
        Edge.faulty(1, "ties ^halff;");
        Edge.faulty(1, "ties ^hal");
        Edge.faulty(1, "ties ^own;");
        Edge.faulty(1, "scale ^rawraw;");
        Edge.faulty(1, "scale ^drop;");
        Edge.faulty(1, Edge.TWO + "pair a ^againstb;");
        Edge.faulty(1, Edge.PAIR + "look 5 ^belo 1 in 2;");
        Edge.faulty(1, Edge.PAIR + "look 5 below 1 ^of 2;");
        Edge.faulty(1, "claim c ^whenever 1=1;");
        Edge.faulty(1, "claim c when ^minimum(1,2)=1;");
        Edge.faulty(1, "claim c when 1=1 ^orr 1=1;");
        Edge.faulty(1, "claim c when 1=1 ^1=1;");
        Edge.faulty(1, "claim c when 1 ^123456=1;");
        Edge.faulty(1, "claim c when 1=^product;");
        Edge.faulty(1, "claim c when 1=^abcdefghij;");
        Edge.faulty(1, "product a;claim c when ^a=1;");
    }

    /** "FAULTS, the first along the text" */
    private static void firstFaultAlongTheText() {
        String good = SIX + "pair a against b;";
        String[] faults = {"1^?;", "1ties ^12345;", "2look ^0 below 0 in 0;", "2look 5 below ^1001 in ?;", "3reference ^zz ",
            "3pair a against ^a?", "3claim ^a when 12345=1;", "4claim q when ((((((^((1", "4claim q when 1=1 and [[[[[[^[0?",
            "5^product product;", "5^product a;"};
        for (String fault : faults) {
            for (String behind : faults) {
                Edge.faulty(fault.charAt(0) - '0', good + fault.substring(1) + behind.substring(1).replace("^", ""));
            }
        }
        Edge.faulty(2, Edge.PAIR + "look ^31x below 1 in 2;");
        Edge.faulty(3, "product a;product ^a1;");
        Edge.faulty(2, Edge.PAIR + "look 5 below 9 in ^8?");
    }
}
