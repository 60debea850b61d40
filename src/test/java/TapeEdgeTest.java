/** Promises 1 to 5 at their edges: the new object, the tape, the seed, what a fault leaves alone. */
public final class TapeEdgeTest {
    private static final int BLANKS = 0x20202020;

    public static void main(String[] args) {
        newObject();
        feedUpTo700();
        feedRefused();
        highestByteFirst();
        endAtItsLimits();
        endRefused();
        endCutsForGood();
        seedLimits();
        seedRefused();
        emptyText();
        longestText();
        tapeGoes();
        faultLeavesAll();
        planBeginsAnew();
        codesOfLaterPlans();
        testsOfLaterPlans();
        namesOfLaterPlans();
        faultOfLatestText();
        faultOfOthers();
        lastPromisedCall();
        Check.end();
    }

    /** "No PLAN, no ACTS, CODES shut." */
    private static void newObject() {
        TastingHouse house = new TastingHouse();
        for (int what = 0; what <= 6; what++) {
            Check.due("new: all " + what, house.all(what), 0);
        }
        Check.due("new: as none", house.as(0), true);
        Check.due("new: as the last", house.as(-1), true);
        Edge.refused("new: as 1", TastingHouse::new, h -> h.as(1) ? 1 : 0, 0);
        Edge.refused("new: open", TastingHouse::new, h -> h.open() ? 1 : 0, 0);
        Edge.refused("new: code", TastingHouse::new, h -> h.code(0, 0, 0));
        Edge.refused("new: answer", TastingHouse::new, h -> h.answer(0, 0, 0));
        Edge.refused("new: score", TastingHouse::new, h -> h.score(0, 0, 0, 0));
        Edge.refused("new: swap", TastingHouse::new, h -> h.swap(0, 100, 101));
        Edge.refused("new: swap of no codes", TastingHouse::new, h -> h.swap(0, 0, 1));
        Edge.refused("new: annul", TastingHouse::new, h -> h.annul(1));
        Edge.refused("new: answers", TastingHouse::new, h -> h.answers(0));
        Edge.refused("new: inside", TastingHouse::new, h -> h.inside(0, 100));
        Edge.refused("new: trial", TastingHouse::new, h -> h.trial(0, 0));
        Edge.refused("new: chance above", TastingHouse::new, h -> h.chance(0, true));
        Edge.refused("new: chance below", TastingHouse::new, h -> h.chance(0, false));
        Edge.refused("new: mean", TastingHouse::new, h -> h.mean(0));
        Edge.refused("new: drift", TastingHouse::new, h -> h.drift(0), -1000000000);
        Edge.refused("new: scored", TastingHouse::new, h -> h.scored(0, 0, 0));
        Edge.refused("new: claim", TastingHouse::new, h -> h.claim(0));
        Edge.refused("new: served", TastingHouse::new, h -> h.served(0, 0));
        Edge.refused("new: serves", TastingHouse::new, h -> h.serves(0x10));
        Check.due("new: guess needs no plan", house.guess(true, 1, 1), 1);
        Check.due("new: table needs no plan", house.table(true, 0, 0, 0), 1 << 30);
        Check.due("new: needed needs no plan", house.needed(false, 1000, 501, 0), 1);
        Check.due("new: orders need no plan", house.orders(2, 2), 0);
    }

    /** "how many there are; NONE .. if there would be more than 700" */
    private static void feedUpTo700() {
        TastingHouse house = new TastingHouse();
        for (int bytes = 20; bytes <= 700; bytes += 20) {
            Check.due("feed to " + bytes, house.feed(BLANKS, BLANKS, BLANKS, BLANKS, BLANKS), bytes);
        }
        Check.due("feed to 720", house.feed(BLANKS, BLANKS, BLANKS, BLANKS, BLANKS), -1);
        Check.due("end 681", house.end(681), true);
        Check.due("feed to 701", house.feed(BLANKS, BLANKS, BLANKS, BLANKS, BLANKS), -1);
        Check.due("end 680", house.end(680), true);
        Check.due("feed to 700", house.feed(BLANKS, BLANKS, BLANKS, BLANKS, BLANKS), 700);
        Check.due("end 679", house.end(679), true);
        Check.due("feed to 699", house.feed(BLANKS, BLANKS, BLANKS, BLANKS, BLANKS), 699);
    }

    private static TastingHouse withTape(int bytes) {
        TastingHouse house = Edge.opened();
        StringBuilder text = new StringBuilder("product a;ties half;");
        while (text.length() < bytes) {
            text.append(' ');
        }
        Edge.rewrite(house, text.substring(0, bytes));
        return house;
    }

    /** "doing nothing": neither the tape nor anything else. */
    private static void feedRefused() {
        Edge.refused("feed behind 700", () -> withTape(700), h -> h.feed(-1, -1, -1, -1, -1));
        Edge.refused("feed behind 681", () -> withTape(681), h -> h.feed(-1, -1, -1, -1, -1));
        Edge.refused("feed behind 699, twice", () -> withTape(699),
            h -> Math.max(h.feed(-1, -1, -1, -1, -1), h.feed(0, 0, 0, 0, 0)));
    }

    /** "of each number the highest first": each of the twenty bytes is found at its place. */
    private static void highestByteFirst() {
        for (int at = 0; at < 20; at++) {
            int[] numbers = {BLANKS, BLANKS, BLANKS, BLANKS, BLANKS};
            numbers[at / 4] |= 0xff000000 >>> (8 * (at % 4));
            TastingHouse house = new TastingHouse();
            house.feed(BLANKS, BLANKS, BLANKS, BLANKS, BLANKS);
            house.feed(numbers[0], numbers[1], numbers[2], numbers[3], numbers[4]);
            Check.due("byte " + at, house.plan(0), -1);
            Check.due("place of byte " + at, house.fault(1), 20 + at);
        }
    }

    /** "The tape has its first n bytes alone: true; false .. if it has not so many, or n is below 0." */
    private static void endAtItsLimits() {
        TastingHouse house = new TastingHouse();
        Check.due("none of none", house.end(0), true);
        Check.due("1 of none", house.end(1), false);
        house.feed(BLANKS, BLANKS, BLANKS, BLANKS, BLANKS);
        Check.due("21 of 20", house.end(21), false);
        Check.due("20 of 20", house.end(20), true);
        Check.due("19 of 20", house.end(19), true);
        Check.due("20 of 19", house.end(20), false);
        Check.due("19 of 19", house.end(19), true);
        Check.due("1 of 19", house.end(1), true);
        Check.due("below 0", house.end(-1), false);
        Check.due("2 of 1", house.end(2), false);
        Check.due("none of 1", house.end(0), true);
        Check.due("1 of none", house.end(1), false);
    }

    /** "false, doing nothing" */
    private static void endRefused() {
        for (int n : new int[] {Edge.MIN, -700, -2, -1, 21, 22, 700, 701, Edge.MAX}) {
            Edge.refused("end " + n + " of 20", Edge::shut, h -> h.end(n) ? 1 : 0, 0);
            Edge.refused("end " + n + " of 20, opened", Edge::toldBefore, h -> h.end(n) ? 1 : 0, 0);
        }
        Edge.refused("end 701 of 700", () -> withTape(700), h -> h.end(701) ? 1 : 0, 0);
        Edge.refused("end 700 of 700 keeps all", () -> withTape(700), h -> h.end(700) ? 1 : 0, 1);
    }

    private static void endCutsForGood() {
        TastingHouse house = new TastingHouse();
        Check.write(house, "product a;???????????????????????");
        Check.due("cut", house.end(10), true);
        Check.due("behind the cut", house.feed(BLANKS, BLANKS, BLANKS, BLANKS, BLANKS), 30);
        Check.due("what was cut is gone", house.plan(0), 1);
        cut("product a;product ^a", "b;", 3);
        cut("product a^", "bcdefgh;", 1);
        cut("ties half^", "s;", 1);
        cut("ties ^hal", "f;", 1);
        cut(Edge.PAIR + "look 3^", "1 below 1 in 2;", 1);
        cut("claim c when 1=1000^", "0;", 1);
    }

    /** What stood on the tape behind its end is no part of its last word or number. */
    private static void cut(String marked, String behind, int fault) {
        String text = marked.replace("^", "");
        TastingHouse house = new TastingHouse();
        Check.write(house, text + behind);
        Check.due("cut to " + text, house.end(text.length()), true);
        Check.due("plan of " + text, house.plan(0), -1);
        Check.due("fault of " + text, house.fault(0), fault);
        Check.due("place of " + text, house.fault(1), marked.indexOf('^'));
    }

    /** "a seed (0 .. 2147483647)" */
    private static void seedLimits() {
        for (int seed : new int[] {0, 1, Edge.MAX - 1, Edge.MAX}) {
            TastingHouse house = Check.planned(seed, Edge.TRIANGLE, 3);
            long x = (1103515245L * seed + 12345L) % (1L << 31);
            Check.due("first code by seed " + seed, house.code(0, 0, 0), 100 + x / 256 % 900);
        }
    }

    /** "-2 when the seed can't be (all stays)": the tape, the plan, the fault, the acts, as(), what is open. */
    private static void seedRefused() {
        for (int seed : new int[] {-1, -2, Edge.MIN, Edge.MIN + 1}) {
            Edge.refused("new, seed " + seed, TastingHouse::new, h -> h.plan(seed), -2);
            Edge.refused("shut, seed " + seed, Edge::shut, h -> h.plan(seed), -2);
            Edge.refused("told before, seed " + seed, Edge::toldBefore, h -> h.plan(seed), -2);
            Edge.refused("a faulty text, seed " + seed, () -> withText("ties"), h -> h.plan(seed), -2);
            Edge.refused("an empty text, seed " + seed, () -> withText(""), h -> h.plan(seed), -2);
        }
        TastingHouse house = withText("product a;product b;");
        Check.due("seed -1", house.plan(-1), -2);
        Check.due("the text is still there", house.plan(0), 2);
    }

    private static TastingHouse withText(String text) {
        TastingHouse house = Edge.opened();
        Edge.rewrite(house, text);
        return house;
    }

    /** { STATEMENT ; } may be none: a PLAN of none, which can be opened. */
    private static void emptyText() {
        for (String text : new String[] {"", " ", "\n", " \n \n"}) {
            TastingHouse house = Check.planned(5, text, 0);
            Check.due("no products", house.all(0), 0);
            Check.due("no trials", house.code(0, 0, 0), -1);
            Check.due("opens", house.open(), true);
            Check.due("drift", house.drift(9), 0);
            Check.due("no mean", house.mean(0), -1);
            Check.due("no claim", house.claim(0), -1);
        }
        TastingHouse house = Edge.opened();
        Edge.rewrite(house, "");
        Check.due("in the stead of another", house.plan(0), 0);
        Check.due("acts go", house.all(3), 0);
        Check.due("codes are shut", house.all(5), 0);
    }

    private static void longestText() {
        StringBuilder text = new StringBuilder();
        for (int i = 0; i < 70; i++) {
            text.append(i % 2 == 0 ? "ties lose;" : "scale raw;");
        }
        Edge.goes(text.toString(), 70);
        text.setLength(699);
        Edge.faulty(1, text + "^");
        Edge.faulty(1, text + "^?");
        text.setLength(690);
        Edge.faulty(1, text + "product   ^");
        Edge.faulty(1, text + "product aa^");
        Edge.faulty(1, text + "ties ^12345");
        lastWords();
    }

    /** A text may end at the tape's last byte amid a word that begins as an OWN WORD does, or with one. */
    private static void lastWords() {
        for (String word : new String[] {"product", "triangle", "ties", "reference", "claim", "look", "scale", "pair"}) {
            for (int letters = 1; letters <= word.length(); letters++) {
                String blanks = " ".repeat(700 - letters);
                boolean asked = letters == word.length() && !word.equals("look");
                Edge.faulty(1, asked ? blanks + word + "^" : blanks + "^" + word.substring(0, letters));
            }
        }
        Edge.faulty(1, " ".repeat(692) + "ties ^hal");
        Edge.faulty(1, " ".repeat(691) + "ties half^");
        Edge.goes(" ".repeat(690) + "ties half;", 1);
    }

    /** "The tape (it goes)": with a fault and without. */
    private static void tapeGoes() {
        for (String text : new String[] {"product a;", "product a", ""}) {
            TastingHouse house = new TastingHouse();
            Check.write(house, text);
            house.plan(0);
            Check.due("tape behind the plan " + text, Edge.tapeLength(house), 0);
            Check.due("nothing to keep", house.end(1), false);
        }
    }

    private static TastingHouse faulted(TastingHouse house) {
        Edge.rewrite(house, "product p;product q;product r;product s;pair p against q;look 1 below 1 in 1;"
            + "ties lose;scale raw;reference p;claim x when 1=1;claim y when 1=1;claim z when 1=1;claim w when 1=2;?");
        Check.due("a fault", house.plan(99), -1);
        Check.due("a fault", house.fault(0), 1);
        return house;
    }

    /** "NONE with a FAULT .. Without one ACTS go, CODES are shut, as() is NONE": with one they stay. */
    private static void faultLeavesAll() {
        Edge.same("a fault while shut", withoutFault(faulted(Edge.shut())), withoutFault(Edge.shut()));
        Edge.same("a fault while open", withoutFault(faulted(Edge.opened())), withoutFault(Edge.opened()));
        Edge.same("a fault, told before", withoutFault(faulted(Edge.toldBefore())), withoutFault(Edge.toldBefore()));
        TastingHouse house = faulted(new TastingHouse());
        Check.due("a fault lays no plan", house.open(), false);
    }

    /** The fault itself and the tape are what a faulty plan changes: made alike here. */
    private static TastingHouse withoutFault(TastingHouse house) {
        Edge.rewrite(house, "?");
        house.plan(0);
        return house;
    }

    /** "Without one ACTS go, CODES are shut, as() is NONE." */
    private static void planBeginsAnew() {
        TastingHouse house = Edge.toldBefore();
        Edge.rewrite(house, Edge.PAIR);
        Check.due("plan", house.plan(3), 3);
        Check.due("acts go", house.all(3), 0);
        Check.due("codes are shut", house.all(5), 0);
        Check.due("nothing is told", house.trial(0, 0), -1);
        Check.due("told at none", house.all(4), 0);
        Check.due("acts begin at 1", house.answer(0, 0, 0), 1);
        Check.due("as() is NONE", house.all(4), 1);
        Check.due("an old act is none such", house.as(9), false);
        Check.due("nor can it be void", house.annul(9), -1);
        Check.due("another", house.answer(0, 1, house.code(0, 1, 0)), 2);
        Check.due("opens again", house.open(), true);
        Check.due("act 2 counts", house.trial(0, 3), 1);
        Check.due("no swap is left", house.inside(0, house.code(0, 0, 0)), 1);
        Check.due("no score is left", house.mean(0), -1000000);
        Check.due("act 2 was VOID under the old plan, and may be so now", house.annul(2), 3);
        Check.due("then it does not count", house.trial(0, 3), 0);
    }

    /** The codes of a plan that comes behind others are those that it would have by itself. */
    private static void codesOfLaterPlans() {
        TastingHouse house = new TastingHouse();
        String[] texts = {Edge.TRIANGLE + "triangle a against b;", Edge.PAIR, Edge.TRIANGLE, Edge.PAIR + "triangle b against a;"};
        for (int i = 0; i < 8; i++) {
            String text = texts[i % texts.length];
            int statements = text.split(";").length;
            Check.write(house, text);
            Check.due("plan " + i, house.plan(1000 + i), statements);
            TastingHouse alone = Check.planned(1000 + i, text, statements);
            for (int cup = 40; cup < 90; cup += 7) {
                int trial = statements - 3;
                Check.due("plan " + i + " cup " + cup, house.code(trial, cup / 3, cup % 3), alone.code(trial, cup / 3, cup % 3));
            }
        }
    }

    /** The names of earlier plans, all that there can be, are free and no products' any more. */
    private static void namesOfLaterPlans() {
        String products = "product a;product b;product c;product d;product e;product f;";
        StringBuilder claims = new StringBuilder();
        for (char name = 's'; name < 's' + 8; name++) {
            claims.append("claim ").append(name).append(" when 1=1;");
        }
        TastingHouse house = new TastingHouse();
        for (char name : "abcdefstuvwxyz".toCharArray()) {
            house = Check.planned(0, products + claims, 14);
            Check.write(house, products + claims);
            Check.due("the same once more", house.plan(0), 14);
            Check.write(house, "claim " + name + " when 1=1;");
            Check.due("a claim " + name, house.plan(0), 1);
            Check.write(house, "product " + name + ";");
            Check.due("a product " + name, house.plan(0), 1);
            Check.write(house, "product g;reference " + name + ";");
            Check.due("no product " + name, house.plan(0), -1);
            Check.due("no product " + name, house.fault(0), 3);
        }
        Check.due("the last that went", house.all(0), 1);
    }

    /** Tests of earlier plans take no room from those of later ones. */
    private static void testsOfLaterPlans() {
        TastingHouse house = new TastingHouse();
        for (int i = 0; i < 10; i++) {
            StringBuilder text = new StringBuilder("claim a when 0=1;claim b when 0");
            for (int parts = 0; parts < 200; parts++) {
                text.append("+1");
            }
            text.append(i % 2 == 0 ? "=200;" : "=199;").append("claim c when 1=").append(i % 3).append(';');
            Check.write(house, text.toString());
            Check.due("plan " + i, house.plan(0), 3);
            house.open();
            Check.due("the first of plan " + i, house.claim(0), 0);
            Check.due("the second of plan " + i, house.claim(1), i % 2 == 0 ? 1 : 0);
            Check.due("the last of plan " + i, house.claim(2), i % 3 == 1 ? 1 : 0);
        }
    }

    /** "Of the latest plan() that read a text: its FAULT (0; 0 without, and ahead of any), its place (1; NONE without)." */
    private static void faultOfLatestText() {
        TastingHouse house = new TastingHouse();
        Check.due("ahead of any", house.fault(0), 0);
        Check.due("ahead of any", house.fault(1), -1);
        Check.due("no text was read", house.plan(-1), -2);
        Check.due("still ahead of any", house.fault(0), 0);
        Check.due("still ahead of any", house.fault(1), -1);
        Check.write(house, "reference a;");
        house.plan(0);
        Check.due("fault", house.fault(0), 3);
        Check.due("place", house.fault(1), 10);
        Check.write(house, "product a;");
        Check.due("a seed that can't be reads no text", house.plan(-7), -2);
        Check.due("the fault stays", house.fault(0), 3);
        Check.due("the place stays", house.fault(1), 10);
        Check.due("a text without one", house.plan(0), 1);
        Check.due("no fault", house.fault(0), 0);
        Check.due("no place", house.fault(1), -1);
        Check.write(house, "?");
        house.plan(0);
        Check.due("a fault again", house.fault(0), 1);
        Check.due("at 0", house.fault(1), 0);
        Check.due("an empty text has none", house.plan(0), 0);
        Check.due("no fault", house.fault(0), 0);
        Check.due("no place", house.fault(1), -1);
    }

    /** "NONE for another what." */
    private static void faultOfOthers() {
        for (int what : new int[] {Edge.MIN, -2, -1, 2, 3, Edge.MAX}) {
            Edge.refused("new: fault " + what, TastingHouse::new, h -> h.fault(what));
            TastingHouse house = new TastingHouse();
            Check.write(house, "??");
            house.plan(0);
            Check.due("with a fault: " + what, house.fault(what), -1);
        }
    }

    /** "An object is used for at most 512 calls": the last of them is as good as the first. */
    private static void lastPromisedCall() {
        TastingHouse house = new TastingHouse();
        for (int call = 1; call <= 506; call++) {
            house.end(0);
        }
        house.feed(0x70726f64, 0x75637420, 0x613b7469, 0x65732068, 0x616c663b);
        Check.due("call 508", house.plan(0), 2);
        Check.due("call 509", house.score(0, 0, 0, 30), 1);
        Check.due("call 510", house.open(), true);
        Check.due("call 511", house.mean(0), 300);
        Check.due("call 512", house.all(5), 1);
    }
}
