/** Terms II and III at their edges, and promises 13 to 19: answers, looks, spoilt ones, chances, the table, needed. */
public final class TrialEdgeTest {
    private static final int[] FAR = {Edge.MIN, Edge.MIN + 1, -1000, Edge.MAX - 1, Edge.MAX};

    public static void main(String[] args) {
        answersOfTrials();
        answersWithoutLooks();
        insideRefused();
        trialRefused();
        chanceRefused();
        noAnswers();
        eachTrialByItself();
        spoiltTriangles();
        spoiltPairs();
        tiesAtFirstAndLast();
        halfOfTies();
        chanceIsBelow();
        looksAtTheirAnswers();
        fiveLooks();
        looksOfTheirTrialOnly();
        tieThatDrops();
        laterAnswersDontCount();
        roundedUp();
        guessLimits();
        guessOfAll();
        tableLimits();
        tableAtItsShares();
        leastAndMostAtTheEnds();
        neededLimits();
        neededIsTheLeast();
        neededUpTo30();
        Check.end();
    }

    private static TastingHouse house(boolean triangle, String rest) {
        TastingHouse house = new TastingHouse();
        Check.write(house, (triangle ? Edge.TRIANGLE : Edge.PAIR) + rest);
        Check.due("a plan of " + rest, house.plan(11) >= 3, true);
        return house;
    }

    /** The first so many tasters, of whom the first so many are right. */
    private static TastingHouse answered(boolean triangle, String rest, int right, int all) {
        TastingHouse house = house(triangle, rest);
        for (int taster = 0; taster < all; taster++) {
            Edge.answer(house, triangle, taster, taster < right);
        }
        return house;
    }

    /** "NONE when there is no such TRIAL. (Told while CODES are shut, too.)" */
    private static void answersOfTrials() {
        for (int trial : new int[] {Edge.MIN, -2, -1, 2, 3, 4, Edge.MAX}) {
            Edge.refused("shut: answers " + trial, Edge::shut, h -> h.answers(trial));
            Edge.refused("opened: answers " + trial, Edge::opened, h -> h.answers(trial));
        }
        TastingHouse house = answered(true, "", 30, 30);
        Check.due("all thirty", house.answers(0), 30);
        house.open();
        Check.due("opened", house.answers(0), 30);
        house.as(0);
        Check.due("at none", house.answers(0), 0);
        house.as(29);
        Check.due("at 29", house.answers(0), 29);
    }

    /** "(of all its ANSWERS that are known, SPOILT ones not), LOOKS not looked at" */
    private static void answersWithoutLooks() {
        TastingHouse house = answered(false, "look 1 below 1 in 1;", 3, 5);
        house.answer(0, 5, 0);
        Check.due("behind the look, a dropped tie not", house.answers(0), 5);
        house.swap(0, house.code(0, 3, 0), house.code(0, 28, 0));
        Check.due("a spoilt one not", house.answers(0), 4);
        house.open();
        Check.due("it stopped at the first", house.trial(0, 3), 1);
        Check.due("answers all the same", house.answers(0), 4);
    }

    /** "NONE when there is none such, or CODES are shut" */
    private static void insideRefused() {
        TastingHouse house = Edge.opened();
        int onlyInTriangle = house.code(0, 29, 2);
        int good = house.code(0, 0, 0);
        int[][] wrong = {{-1, good}, {2, good}, {0, 0}, {0, -1}, {0, 1}, {0, 99}, {0, 1000}, {1, onlyInTriangle}, {0, -good},
            {Edge.MAX, good}, {Edge.MIN, good}, {0, Edge.MAX}, {0, Edge.MIN}};
        for (int[] w : wrong) {
            Edge.refused("inside " + w[0] + " " + w[1], Edge::opened, h -> h.inside(w[0], w[1]));
        }
        Edge.refused("inside while shut", Edge::shut, h -> h.inside(0, good));
        Check.due("there", house.inside(0, good), 1);
        Check.due("there", house.inside(0, onlyInTriangle), 2);
        int there = 0;
        for (int code = 0; code <= 1100; code++) {
            there += house.inside(1, code) == -1 ? 0 : 1;
        }
        Check.due("sixty cups in a pair", there, 60);
    }

    /** "NONE when there is none such, CODES are shut, or for others" */
    private static void trialRefused() {
        for (int what : new int[] {Edge.MIN, -2, -1, 10, 11, 100, Edge.MAX}) {
            Edge.refused("trial what " + what, Edge::opened, h -> h.trial(0, what));
        }
        for (int trial : new int[] {Edge.MIN, -2, -1, 2, 3, 4, Edge.MAX}) {
            Edge.refused("trial " + trial, Edge::opened, h -> h.trial(trial, 0));
            Edge.refused("trial " + trial, Edge::opened, h -> h.trial(trial, 9));
        }
        Edge.refused("trial while shut", Edge::shut, h -> h.trial(0, 0));
    }

    /** "NONE when there is none such, or CODES are shut" */
    private static void chanceRefused() {
        for (int trial : new int[] {Edge.MIN, -2, -1, 2, 3, 4, Edge.MAX}) {
            Edge.refused("chance " + trial, Edge::opened, h -> h.chance(trial, true));
            Edge.refused("chance " + trial, Edge::opened, h -> h.chance(trial, false));
        }
        Edge.refused("chance while shut", Edge::shut, h -> h.chance(0, true));
        Edge.refused("chance while shut", Edge::shut, h -> h.chance(0, false));
    }

    private static void noAnswers() {
        for (int triangle = 0; triangle < 2; triangle++) {
            TastingHouse house = house(triangle == 1, "look 1 below 1 in 1;");
            house.open();
            int[] want = {0, 0, 0, 0, 0, 0, 0, 0, 1000, 1000000};
            for (int what = 0; what < want.length; what++) {
                Check.due("no answers: " + what, house.trial(0, what), want[what]);
            }
            Check.due("no answers: above", house.chance(0, true), 1);
            Check.due("no answers: below", house.chance(0, false), 1);
        }
    }

    /** Four trials of two kinds, each with answers, looks and swaps of its own, asked in turns. */
    private static void eachTrialByItself() {
        TastingHouse house = new TastingHouse();
        Check.write(house, Edge.TWO + "triangle a against b;look 2 below 1 in 8;pair a against b;look 1 below 1 in 2;"
            + "look 3 below 1 in 7;triangle b against a;pair b against a;look 2 below 1 in 3;");
        Check.due("plan", house.plan(5), 10);
        for (int taster = 0; taster < 4; taster++) {
            house.answer(0, taster, house.code(0, taster, new int[] {2, 1, 0, 2}[taster]));
            house.answer(1, taster, house.code(1, taster, taster % 2));
            house.answer(3, taster, house.code(3, taster, 0));
        }
        house.open();
        long[][] want = {{2, 1, 1, 9}, {3, 2, 1, 8}, {0, 0, 1, 1}, {4, 0, 11, 16}};
        for (int turn = 0; turn < 8; turn++) {
            int trial = turn * 3 % 4;
            Check.due("above " + trial, house.chance(trial, true), want[trial][2]);
            Check.due("below " + trial, house.chance(trial, false), want[trial][3]);
            Check.due("N " + trial, house.trial(trial, 3), want[trial][0]);
            Check.due("look " + trial, house.trial(trial, 5), want[trial][1]);
        }
        house.swap(2, house.code(2, 0, 0), house.code(2, 0, 2));
        Check.due("a swap in another trial", house.inside(0, house.code(0, 0, 0)), 1);
        Check.due("and in its own", house.inside(2, house.code(2, 0, 0)), 2);
    }

    /** "A triangle without just one odd cup is SPOILT (its ANSWER counts for nothing ..)" */
    private static void spoiltTriangles() {
        TastingHouse house = answered(true, "", 6, 6);
        house.open();
        // Taster 0 has 112, taster 3 has 221: then both are of one kind.
        house.swap(0, house.code(0, 0, 2), house.code(0, 3, 2));
        Check.due("111 and 222", house.trial(0, 6), 2);
        Check.due("the others are right", house.trial(0, 0), 4);
        Check.due("none is wrong", house.trial(0, 1), 0);
        // Taster 1 has 121, taster 6 (no answer) 112: from 121 to 221, still with one odd cup.
        house.swap(0, house.code(0, 1, 0), house.code(0, 6, 2));
        Check.due("another odd cup is not spoilt, nor one without an answer told", house.trial(0, 6), 2);
        Check.due("its answer was of the odd one, and is not", house.trial(0, 1), 1);
        Check.due("N", house.trial(0, 3), 4);
        house.annul(7);
        Check.due("not so: none is spoilt", house.trial(0, 6), 0);
        Check.due("not so: they count", house.trial(0, 3), 6);
    }

    /** "a pair of two alike cups likewise" */
    private static void spoiltPairs() {
        TastingHouse house = house(false, "ties lose;");
        house.answer(0, 0, house.code(0, 0, 0));
        house.answer(0, 1, 0);
        house.answer(0, 2, 0);
        house.open();
        Check.due("all count", house.trial(0, 3), 3);
        // Taster 0 has 12, taster 1 has 21: then 22 and 11.
        house.swap(0, house.code(0, 0, 0), house.code(0, 1, 0));
        Check.due("both spoilt, a tie too", house.trial(0, 6), 2);
        Check.due("nothing right", house.trial(0, 0), 0);
        Check.due("one tie", house.trial(0, 2), 1);
        Check.due("N", house.trial(0, 3), 1);
        // Taster 2 has 12: then 21, and is not spoilt.
        house.swap(0, house.code(0, 2, 0), house.code(0, 2, 1));
        Check.due("turned round is not spoilt", house.trial(0, 6), 2);
    }

    private static int[] tied(String ties) {
        TastingHouse house = house(false, ties);
        house.answer(0, 0, house.code(0, 0, 0));
        house.answer(0, 1, 0);
        house.answer(0, 2, 0);
        house.answer(0, 3, 0);
        int shut = house.answers(0);
        house.open();
        return new int[] {shut, house.trial(0, 3), house.trial(0, 4), house.trial(0, 2)};
    }

    private static void dueTied(String ties, int n, int k) {
        int[] got = tied(ties);
        Check.due(ties + " answers", got[0], n);
        Check.due(ties + " N", got[1], n);
        Check.due(ties + " K", got[2], k);
        Check.due(ties + " tied", got[3], 3);
    }

    /** "ties half, ties drop, ties lose (the last one counts; drop at first)" */
    private static void tiesAtFirstAndLast() {
        dueTied("", 1, 1);
        dueTied("ties drop;", 1, 1);
        dueTied("ties half;", 4, 2);
        dueTied("ties lose;", 4, 1);
        dueTied("ties half;ties lose;", 4, 1);
        dueTied("ties lose;ties half;", 4, 2);
        dueTied("ties half;ties lose;ties drop;", 1, 1);
    }

    /** "K is RIGHT, and by half floor(TIED / 2)" */
    private static void halfOfTies() {
        TastingHouse house = house(false, "ties half;");
        for (int taster = 0; taster < 30; taster++) {
            house.answer(0, taster, 0);
        }
        house.open();
        for (int tied = 0; tied <= 30; tied++) {
            house.as(tied);
            Check.due("half of " + tied, house.trial(0, 4), tied / 2);
            Check.due("N of " + tied, house.trial(0, 3), tied);
        }
    }

    private static void dueStop(boolean triangle, String look, int right, int all, int stop) {
        TastingHouse house = answered(triangle, look, right, all);
        house.open();
        Check.due((triangle ? "triangle " : "pair ") + right + " of " + all + " " + look, house.trial(0, 5), stop);
    }

    /** "stops if its CHANCE is below": alike is not below. */
    private static void chanceIsBelow() {
        dueStop(false, "look 1 below 1 in 2;", 1, 1, 0);
        dueStop(false, "look 1 below 500 in 1000;", 1, 1, 0);
        dueStop(false, "look 1 below 499 in 1000;", 1, 1, 0);
        dueStop(false, "look 1 below 501 in 1000;", 1, 1, 1);
        dueStop(true, "look 3 below 1 in 27;", 3, 3, 0);
        dueStop(true, "look 3 below 1 in 26;", 3, 3, 1);
        dueStop(true, "look 3 below 1 in 28;", 3, 3, 0);
        dueStop(true, "look 3 below 7 in 27;", 2, 3, 0);
        dueStop(true, "look 3 below 8 in 27;", 2, 3, 1);
        dueStop(false, "look 1 below 1 in 1;", 0, 1, 0);
        dueStop(false, "look 1 below 1000 in 1000;", 0, 1, 0);
        dueStop(false, "look 1 below 1000 in 1000;", 1, 1, 1);
        dueStop(true, "look 30 below 1 in 1000;", 30, 30, 1);
        dueStop(true, "look 30 below 1000 in 1000;", 1, 30, 1);
        dueStop(true, "look 30 below 999 in 1000;", 1, 30, 0);
        dueStop(true, "look 30 below 1000 in 1000;", 0, 30, 0);
        dueStop(false, "look 9 below 1 in 512;", 9, 9, 0);
        dueStop(false, "look 9 below 1 in 511;", 9, 9, 1);
        dueStop(false, "look 10 below 1 in 1000;", 10, 10, 1);
        dueStop(true, "look 6 below 1 in 728;", 6, 6, 1);
        dueStop(true, "look 6 below 1 in 729;", 6, 6, 0);
    }

    /** "looked at behind so many ANSWERS": not one ahead, and not behind. */
    private static void looksAtTheirAnswers() {
        dueStop(false, "look 3 below 1 in 2;", 2, 2, 0);
        dueStop(false, "look 3 below 1 in 2;", 3, 3, 1);
        dueStop(false, "look 3 below 1 in 2;", 4, 4, 1);
        TastingHouse house = answered(false, "look 2 below 1 in 2;", 0, 2);
        for (int taster = 2; taster < 30; taster++) {
            Edge.answer(house, false, taster, true);
        }
        house.open();
        Check.due("28 of 30, but not at its look", house.trial(0, 5), 0);
        Check.due("all count", house.trial(0, 3), 30);
    }

    /** "in order .. at the first at which CHANCE is below, it STOPS", "at which LOOK .. (from 1 on; 0: it did not)" */
    private static void fiveLooks() {
        String looks = "look 1 below 1 in 1;look 2 below 1 in 1;look 3 below 1 in 1;look 4 below 1 in 1;look 5 below 1 in 1;";
        for (int wrong = 0; wrong <= 5; wrong++) {
            TastingHouse house = answered(false, looks, 0, wrong);
            for (int taster = wrong; taster < 6; taster++) {
                Edge.answer(house, false, taster, true);
            }
            house.open();
            Check.due("first right one behind " + wrong, house.trial(0, 5), wrong < 5 ? wrong + 1 : 0);
            Check.due("N", house.trial(0, 3), wrong < 5 ? wrong + 1 : 6);
        }
    }

    /** Neither the looks of the next trial nor those of an earlier plan are looked at. */
    private static void looksOfTheirTrialOnly() {
        String never = "look 1 below 1 in 1000;look 2 below 1 in 1000;look 3 below 1 in 1000;look 4 below 1 in 1000;"
            + "look 5 below 1 in 1000;";
        String always = "look 6 below 1 in 1;";
        TastingHouse house = answered(false, never + "pair a against b;" + always, 6, 8);
        house.open();
        Check.due("five looks, none stops", house.trial(0, 5), 0);
        Check.due("all count", house.trial(0, 3), 8);
        house = answered(false, "pair a against b;" + always, 6, 8);
        house.open();
        Check.due("no looks", house.trial(0, 5), 0);
        for (int plan = 0; plan < 4; plan++) {
            house.end(0);
            Check.write(house, Edge.PAIR + (plan % 4 < 2 ? "look 1 below 1 in 1000;" + always : "look 1 below 1 in 1000;"));
            Check.due("a plan", house.plan(11) > 0, true);
            for (int taster = 0; taster < 8; taster++) {
                Edge.answer(house, false, taster, true);
            }
            house.open();
            Check.due("plan " + plan, house.trial(0, 5), plan < 2 ? 2 : 0);
            Check.due("plan " + plan, house.trial(0, 3), plan < 2 ? 6 : 8);
        }
        fourTimesFiveLooks();
    }

    private static void fourTimesFiveLooks() {
        StringBuilder text = new StringBuilder(Edge.TWO);
        for (int trial = 0; trial < 4; trial++) {
            text.append("pair a against b;");
            for (int look = 1; look <= 5; look++) {
                text.append("look ").append(look).append(" below 1 in 999;");
            }
        }
        TastingHouse house = Check.planned(3, text.toString(), 26);
        for (int taster = 0; taster < 9; taster++) {
            house.answer(3, taster, house.code(3, taster, taster % 2));
        }
        house.open();
        Check.due("the last look of the last trial", house.trial(3, 5), 0);
        Check.due("all count", house.trial(3, 0), 9);
    }

    /** "as soon as N is so many (a tie that drops makes it no more)" */
    private static void tieThatDrops() {
        TastingHouse house = house(false, "look 2 below 1 in 3;");
        house.answer(0, 0, house.code(0, 0, 0));
        house.answer(0, 1, 0);
        house.answer(0, 2, 0);
        house.open();
        Check.due("one and two ties: no look", house.trial(0, 5), 0);
        house = house(false, "look 2 below 1 in 3;");
        house.answer(0, 0, house.code(0, 0, 0));
        house.answer(0, 1, 0);
        house.answer(0, 2, house.code(0, 2, 0));
        house.answer(0, 3, 0);
        house.open();
        Check.due("the second that counts", house.trial(0, 5), 1);
        Check.due("ties up to where it stopped", house.trial(0, 2), 1);
    }

    /** "later ANSWERS don't count": told "up to where it STOPPED" in each of ten ways. */
    private static void laterAnswersDontCount() {
        TastingHouse house = house(false, "look 3 below 1 in 7;");
        house.answer(0, 0, house.code(0, 0, 0));
        house.answer(0, 1, 0);
        house.answer(0, 2, house.code(0, 2, 0));
        house.answer(0, 3, house.code(0, 3, 0));
        house.answer(0, 4, house.code(0, 4, 0));
        house.answer(0, 5, house.code(0, 5, 0));
        house.answer(0, 7, 0);
        house.answer(0, 6, house.code(0, 6, 0));
        house.open();
        // Taster 3 had 21: with the swap taster 3 has 11 and taster 8 (no answer) 22.
        house.swap(0, house.code(0, 3, 0), house.code(0, 8, 0));
        int[] stopped = {3, 0, 1, 3, 3, 1, 1, Model.least(false, 3, 3), Model.most(false, 3, 3), 125000};
        for (int what = 0; what < stopped.length; what++) {
            Check.due("stopped: " + what, house.trial(0, what), stopped[what]);
        }
        Check.due("stopped: above", house.chance(0, true), 1);
        Check.due("stopped: below", house.chance(0, false), 8);
        // One right and one wrong answer less: it does not stop, and all count.
        house.annul(1);
        int[] all = {3, 1, 2, 4, 3, 0, 1, Model.least(false, 3, 4), Model.most(false, 3, 4), 312500};
        for (int what = 0; what < all.length; what++) {
            Check.due("not stopped: " + what, house.trial(0, what), all[what]);
        }
    }

    private static void dueMillion(boolean triangle, int right, int all, int million) {
        TastingHouse house = answered(triangle, "", right, all);
        house.open();
        Check.due("in a million: " + right + " of " + all, house.trial(0, 9), million);
    }

    /** "the CHANCE in a million, rounded up": a whole number stays, the least part counts as one. */
    private static void roundedUp() {
        dueMillion(false, 0, 0, 1000000);
        dueMillion(false, 0, 30, 1000000);
        dueMillion(true, 0, 30, 1000000);
        dueMillion(false, 1, 1, 500000);
        dueMillion(false, 6, 6, 15625);
        dueMillion(false, 7, 7, 7813);
        dueMillion(false, 20, 20, 1);
        dueMillion(false, 19, 19, 2);
        dueMillion(false, 30, 30, 1);
        dueMillion(true, 1, 1, 333334);
        dueMillion(true, 2, 2, 111112);
        dueMillion(true, 30, 30, 1);
        dueMillion(true, 12, 12, 2);
        dueMillion(true, 13, 13, 1);
        dueMillion(false, 1, 20, 1000000);
        dueMillion(false, 1, 19, 999999);
    }

    /** "k (0 .. n) or more of n (0 .. 30) .. NONE when something can't be" */
    private static void guessLimits() {
        for (int n : new int[] {0, 1, 29, 30}) {
            int top = n;
            Check.due("all ways", new TastingHouse().guess(true, 0, n), pow(3, n));
            Check.due("all ways", new TastingHouse().guess(false, 0, n), pow(2, n));
            Check.due("one way", new TastingHouse().guess(true, n, n), 1);
            Check.due("one way", new TastingHouse().guess(false, n, n), 1);
            Edge.refused("k below 0 of " + n, Edge::shut, h -> h.guess(true, -1, top));
            Edge.refused("k above " + n, Edge::shut, h -> h.guess(true, top + 1, top));
            Edge.refused("k above " + n, Edge::shut, h -> h.guess(false, top + 1, top));
        }
        Edge.refused("31", Edge::shut, h -> h.guess(true, 0, 31));
        Edge.refused("31 of 31", Edge::shut, h -> h.guess(false, 31, 31));
        Edge.refused("n below 0", Edge::shut, h -> h.guess(true, 0, -1));
        Edge.refused("both below 0", Edge::shut, h -> h.guess(true, -1, -1));
        for (int far : FAR) {
            Edge.refused("k " + far, Edge::shut, h -> h.guess(true, far, 30));
            Edge.refused("n " + far, Edge::shut, h -> h.guess(true, 0, far));
            Edge.refused("both " + far, Edge::shut, h -> h.guess(true, far, far));
        }
    }

    private static long pow(long base, int times) {
        long product = 1;
        for (int i = 0; i < times; i++) {
            product *= base;
        }
        return product;
    }

    private static void guessOfAll() {
        TastingHouse house = new TastingHouse();
        Model model = new Model();
        for (int n = 0; n <= 30; n++) {
            for (int k = 0; k <= n; k++) {
                Check.due(k + " of " + n, house.guess(true, k, n), model.guess(true, k, n));
                Check.due(k + " of " + n, house.guess(false, k, n), model.guess(false, k, n));
            }
        }
    }

    /** "THE TABLE: j of n by s; NONE when something can't be." */
    private static void tableLimits() {
        for (boolean triangle : new boolean[] {true, false}) {
            int[][] wrong = {{-1, 0, 0}, {1001, 0, 0}, {0, -1, 0}, {0, 1, 0}, {0, 0, -1}, {0, 0, 31}, {0, 31, 31}, {0, 31, 30},
                {1000, 31, 30}, {1000, -1, 30}, {0, -1, -1}, {1001, 31, 31}};
            for (int[] w : wrong) {
                Edge.refused("table", Edge::shut, h -> h.table(triangle, w[0], w[1], w[2]));
            }
            for (int far : FAR) {
                Edge.refused("s " + far, Edge::shut, h -> h.table(triangle, far, 0, 0));
                Edge.refused("j " + far, Edge::shut, h -> h.table(triangle, 0, far, 30));
                Edge.refused("n " + far, Edge::shut, h -> h.table(triangle, 0, 0, far));
            }
            TastingHouse house = new TastingHouse();
            Check.due("0 of 0", house.table(triangle, 0, 0, 0), 1 << 30);
            Check.due("0 of 0", house.table(triangle, 1000, 0, 0), 1 << 30);
            Check.due("30 of 30, all taste it", house.table(triangle, 1000, 30, 30), 1 << 30);
            Check.due("29 of 30, all taste it", house.table(triangle, 1000, 29, 30), 0);
            Check.due("0 of 30, all taste it", house.table(triangle, 1000, 0, 30), 0);
        }
    }

    /** "r / R: (1000 + 2 s) / 3000, (1000 + s) / 2000", each step rounded down by itself */
    private static void tableAtItsShares() {
        TastingHouse house = new TastingHouse();
        long whole = 1L << 30;
        for (int s : new int[] {0, 1, 499, 500, 999, 1000}) {
            long third = whole * (1000 + 2 * s) / 3000;
            long twoThirds = whole * (2000 - 2 * s) / 3000;
            Check.due("triangle 1 of 1 by " + s, house.table(true, s, 1, 1), third);
            Check.due("triangle 0 of 1 by " + s, house.table(true, s, 0, 1), twoThirds);
            Check.due("triangle 1 of 2 by " + s, house.table(true, s, 1, 2),
                third * (2000 - 2 * s) / 3000 + twoThirds * (1000 + 2 * s) / 3000);
            Check.due("pair 1 of 1 by " + s, house.table(false, s, 1, 1), whole * (1000 + s) / 2000);
            Check.due("pair 0 of 1 by " + s, house.table(false, s, 0, 1), whole * (1000 - s) / 2000);
        }
        Check.due("pair 0 of 30 by 0", house.table(false, 0, 0, 30), 1);
        Check.due("pair 30 of 30 by 0", house.table(false, 0, 30, 30), 1);
        Check.due("triangle 30 of 30 by 0", house.table(true, 0, 30, 30), 0);
    }

    private static void dueShares(boolean triangle, int right, int all, int least, int most) {
        TastingHouse house = answered(triangle, "", right, all);
        house.open();
        Check.due("least of " + right + " of " + all, house.trial(0, 7), least);
        Check.due("most of " + right + " of " + all, house.trial(0, 8), most);
    }

    /** "LEAST: the least s (0 .. 1000) .. not below ..; MOST ..; (1000, 0 if there is none)" */
    private static void leastAndMostAtTheEnds() {
        dueShares(true, 0, 0, 0, 1000);
        dueShares(true, 1, 1, 0, 1000);
        dueShares(true, 30, 30, 827, 1000);
        dueShares(true, 29, 30, 742, 998);
        dueShares(false, 30, 30, 769, 1000);
        // None is great enough: guessing alone would have more right.
        dueShares(true, 0, 30, 0, 0);
        dueShares(false, 0, 30, 0, 0);
        dueShares(true, 0, 9, 0, 4);
        dueShares(true, 0, 10, 0, 0);
        // 50 in 2000 is just 25 in 1000, and not below.
        dueShares(false, 0, 1, 0, 950);
        dueShares(true, 0, 1, 0, 962);
    }

    /** "NEEDED for s, a, b (0 .. 1000 each)", "NONE when something can't be" */
    private static void neededLimits() {
        int[][] wrong = {{-1, 50, 50}, {1001, 50, 50}, {500, -1, 50}, {500, 1001, 50}, {500, 50, -1}, {500, 50, 1001}};
        for (int[] w : wrong) {
            Edge.refused("needed", Edge::shut, h -> h.needed(true, w[0], w[1], w[2]));
            Edge.refused("needed", Edge::shut, h -> h.needed(false, w[0], w[1], w[2]));
        }
        for (int far : FAR) {
            Edge.refused("s " + far, Edge::shut, h -> h.needed(true, far, 1000, 1000));
            Edge.refused("a " + far, Edge::shut, h -> h.needed(true, 1000, far, 1000));
            Edge.refused("b " + far, Edge::shut, h -> h.needed(true, 1000, 1000, far));
        }
        TastingHouse house = new TastingHouse();
        Check.due("the greatest", house.needed(true, 1000, 1000, 1000), 1);
        Check.due("none may be wrong", house.needed(true, 1000, 1000, 0), 1);
        Check.due("no chance is below 0", house.needed(true, 1000, 0, 1000), -1);
        Check.due("no chance is below 0", house.needed(false, 1000, 0, 0), -1);
        Check.due("none tastes it, all guess", house.needed(true, 0, 1, 1000), 7);
        Check.due("none tastes it, all guess", house.needed(false, 0, 1, 1000), 10);
        Check.due("k of 0 is no less than all", house.needed(true, 0, 1000, 0), -1);
    }

    /** "below a in 1000" (alike is not), "not below 2 to the 30 times (1000 - b) in 1000" (alike is enough) */
    private static void neededIsTheLeast() {
        TastingHouse house = new TastingHouse();
        int[][] pairs = {{501, 1}, {500, 2}, {251, 2}, {250, 3}, {126, 3}, {125, 4}, {63, 4}, {62, 5}, {1, 10}};
        for (int[] pair : pairs) {
            Check.due("pairs below " + pair[0], house.needed(false, 1000, pair[0], 0), pair[1]);
        }
        int[][] triangles = {{334, 1}, {333, 2}, {112, 2}, {111, 3}, {38, 3}, {37, 4}, {1, 7}};
        for (int[] triangle : triangles) {
            Check.due("triangles below " + triangle[0], house.needed(true, 1000, triangle[0], 0), triangle[1]);
        }
        Check.due("750 in 1000 is enough", house.needed(false, 500, 501, 250), 1);
        Check.due("750 in 1000 is not 751", house.needed(false, 500, 501, 249) > 1, true);
        Check.due("975 in 1000 is enough", house.needed(false, 950, 501, 25), 1);
        Check.due("975 in 1000 is not 976", house.needed(false, 950, 501, 24) > 1, true);
        Check.due("a known one", house.needed(true, 500, 50, 50), 23);
        Check.due("a known one", house.needed(true, 500, 50, 200), 16);
        Check.due("a known one", house.needed(false, 600, 50, 50), 28);
    }

    /** "the least n (1 .. 30)", "or 30 are not enough" */
    private static void neededUpTo30() {
        TastingHouse house = new TastingHouse();
        int[][] triangles = {{200, 10, 820}, {200, 50, 574}, {200, 100, 430}, {250, 10, 708}, {250, 50, 428}};
        for (int[] t : triangles) {
            Check.due("30 are enough", house.needed(true, t[0], t[1], t[2]), 30);
            Check.due("30 are not enough", house.needed(true, t[0], t[1], t[2] - 1), -1);
        }
        int[][] pairs = {{200, 50, 709}, {250, 10, 851}, {250, 50, 606}, {300, 10, 776}, {300, 50, 493}};
        for (int[] p : pairs) {
            Check.due("30 are enough", house.needed(false, p[0], p[1], p[2]), 30);
            Check.due("30 are not enough", house.needed(false, p[0], p[1], p[2] - 1), -1);
        }
    }
}
