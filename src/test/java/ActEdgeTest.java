import java.util.HashSet;
import java.util.Set;

/** Term II at its edges, and promises 6 to 12: cups and codes, acts refused and why, what is known, what is open. */
public final class ActEdgeTest {
    private static final int[] FAR = {Edge.MIN, Edge.MIN + 1, -1000, Edge.MAX - 1, Edge.MAX};

    public static void main(String[] args) {
        codeLimits();
        codesUnlikeAndInRange();
        codesBehind999();
        codesOfGreatSeeds();
        codesStay();
        ordersComeRound();
        answerByACodeOfTheirs();
        answerRefused();
        tieOfPairsOnly();
        scoreLimits();
        scoreRefused();
        swapLimits();
        swapRefused();
        annulLimits();
        annulRefused();
        asLimits();
        asRefused();
        asIsAlwaysTheLast();
        openOnce();
        openForGood();
        shutTellsNothing();
        actsUpTo250();
        fullRefuses();
        voidFreesNoRoom();
        voidByAnAct();
        firstKnownAnswerCounts();
        firstKnownScoreCounts();
        Check.end();
    }

    /** "CODE of a CUP; NONE when there is none such." */
    private static void codeLimits() {
        TastingHouse house = Edge.shut();
        int[][] there = {{0, 0, 0}, {0, 0, 2}, {0, 29, 0}, {0, 29, 2}, {1, 0, 0}, {1, 0, 1}, {1, 29, 1}};
        for (int[] cup : there) {
            int code = house.code(cup[0], cup[1], cup[2]);
            Check.due("a code of three digits", code >= 100 && code <= 999, true);
        }
        int[][] none = {{-1, 0, 0}, {2, 0, 0}, {3, 0, 0}, {4, 0, 0}, {0, -1, 0}, {0, 30, 0}, {0, 0, -1}, {0, 0, 3},
            {1, -1, 0}, {1, 30, 0}, {1, 0, -1}, {1, 0, 2}, {1, 29, 2}, {0, 30, -3}, {1, -1, 2}};
        for (int[] cup : none) {
            Edge.refused("no cup", Edge::shut, h -> h.code(cup[0], cup[1], cup[2]));
        }
        for (int far : FAR) {
            Check.due("no trial " + far, house.code(far, 0, 0), -1);
            Check.due("no taster " + far, house.code(0, far, 0), -1);
            Check.due("no place " + far, house.code(0, 0, far), -1);
            Check.due("nothing " + far, house.code(far, far, far), -1);
        }
    }

    /** "a CODE 100 .. 999, all unlike in a TRIAL" */
    private static void codesUnlikeAndInRange() {
        for (int seed : new int[] {0, 1, 177, 7422, 27906, Edge.MAX}) {
            TastingHouse house = Check.planned(seed, Edge.TRIANGLE, 3);
            Set<Integer> codes = new HashSet<>();
            for (int cup = 0; cup < 90; cup++) {
                int code = house.code(0, cup / 3, cup % 3);
                Check.due("in range " + code, code >= 100 && code <= 999, true);
                codes.add(code);
            }
            Check.due("unlike by seed " + seed, codes.size(), 90);
        }
    }

    /** "or the next one above that is no CODE of the TRIAL yet (behind 999 comes 100)" */
    private static void codesBehind999() {
        codeOfCup(177, 35, 100);
        codeOfCup(490, 38, 100);
        // 998 and 999 are taken.
        codeOfCup(1044, 53, 100);
        // 999 and 100 are taken.
        codeOfCup(7422, 63, 101);
        codeOfCup(14410, 27, 100);
        codeOfCup(14410, 52, 101);
        // 189 up to 195 are taken.
        codeOfCup(27906, 79, 196);
    }

    private static void codeOfCup(int seed, int cup, int code) {
        TastingHouse house = Check.planned(seed, Edge.TRIANGLE + "pair a against b;", 4);
        Check.due("triangle, seed " + seed, house.code(0, cup / 3, cup % 3), code);
        Check.due("pair, seed " + seed, house.code(1, cup / 2, cup % 2), cup < 60 ? code : -1);
    }

    /** "(1103515245 x + 12345) mod 2 to the 31": x is never below 0, however great the product. */
    private static void codesOfGreatSeeds() {
        for (int seed : new int[] {Edge.MAX, Edge.MAX - 1, 1 << 30, (1 << 30) - 1, 0x55555555}) {
            TastingHouse house = Check.planned(seed, Edge.TRIANGLE, 3);
            Set<Integer> taken = new HashSet<>();
            java.math.BigInteger x = java.math.BigInteger.valueOf(seed);
            for (int cup = 0; cup < 90; cup++) {
                x = x.multiply(java.math.BigInteger.valueOf(1103515245)).add(java.math.BigInteger.valueOf(12345))
                    .mod(java.math.BigInteger.TWO.pow(31));
                int code = 100 + x.divide(java.math.BigInteger.valueOf(256)).mod(java.math.BigInteger.valueOf(900)).intValue();
                while (!taken.add(code)) {
                    code = code == 999 ? 100 : code + 1;
                }
                Check.due("seed " + seed + " cup " + cup, house.code(0, cup / 3, cup % 3), code);
            }
        }
    }

    /** A swap, a void, as() and open() leave codes where they are. */
    private static void codesStay() {
        TastingHouse house = Edge.shut();
        int code = house.code(0, 0, 0);
        int other = house.code(0, 0, 1);
        house.swap(0, code, other);
        Check.due("behind a swap", house.code(0, 0, 0), code);
        house.open();
        house.as(0);
        Check.due("opened, told at none", house.code(0, 0, 1), other);
    }

    /** "TASTER k (0 .. 29) is served by order k mod 6 .. in a pair by k mod 2" */
    private static void ordersComeRound() {
        TastingHouse house = Check.planned(3, Edge.TRIANGLE + "pair a against b;", 4);
        house.open();
        String[] triangles = {"112", "121", "211", "221", "212", "122"};
        for (int taster : new int[] {0, 1, 2, 3, 4, 5, 6, 11, 12, 24, 29}) {
            for (int place = 0; place < 3; place++) {
                Check.due("triangle of " + taster, house.inside(0, house.code(0, taster, place)),
                    triangles[taster % 6].charAt(place) - '0');
            }
            Check.due("pair of " + taster, house.inside(1, house.code(1, taster, 0)), 1 + taster % 2);
            Check.due("pair of " + taster, house.inside(1, house.code(1, taster, 1)), 2 - taster % 2);
        }
    }

    /** "an ANSWER of a TASTER in a TRIAL by a CODE of theirs" */
    private static void answerByACodeOfTheirs() {
        TastingHouse house = Check.planned(7, Edge.TRIANGLE + "pair a against b;", 4);
        int act = 0;
        for (int taster = 0; taster < 30; taster += 29) {
            for (int place = 0; place < 3; place++) {
                Check.due("triangle", house.answer(0, taster, house.code(0, taster, place)), ++act);
            }
            for (int place = 0; place < 2; place++) {
                Check.due("pair", house.answer(1, taster, house.code(1, taster, place)), ++act);
            }
        }
        Check.due("acts", house.all(3), 10);
    }

    /** "NONE when something can't be, CODES are open" */
    private static void answerRefused() {
        TastingHouse house = Edge.shut();
        int mine = house.code(0, 0, 0);
        int[][] wrong = {{-1, 0, mine}, {2, 0, mine}, {4, 0, mine}, {0, -1, mine}, {0, 30, mine}, {0, 1, mine},
            {0, 29, mine}, {0, 0, house.code(0, 1, 0)}, {0, 0, house.code(0, 29, 2)}, {0, 0, -1}, {0, 0, 1}, {0, 0, 99},
            {0, 0, 1000}, {0, 0, mine + 1}, {0, 0, -mine}, {1, 0, house.code(0, 0, 2)}, {1, 29, house.code(0, 29, 2)},
            {1, 0, -1}, {1, 0, 1}, {1, -1, 0}, {1, 30, 0}, {2, 0, 0}, {-1, 0, 0}, {0, 0, 0}, {0, 29, 0}};
        for (int[] w : wrong) {
            Edge.refused("answer " + w[0] + " " + w[1] + " " + w[2], Edge::shut, h -> h.answer(w[0], w[1], w[2]));
        }
        for (int far : FAR) {
            Edge.refused("answer in " + far, Edge::shut, h -> h.answer(far, 0, mine));
            Edge.refused("answer of " + far, Edge::shut, h -> h.answer(0, far, mine));
            Edge.refused("answer by " + far, Edge::shut, h -> h.answer(0, 0, far));
        }
        Edge.refused("answer while open", Edge::opened, h -> h.answer(0, 7, h.code(0, 7, 0)));
        Edge.refused("tie while open", Edge::opened, h -> h.answer(1, 7, 0));
        Edge.refused("answer while told before", Edge::toldBefore, h -> h.answer(0, 7, h.code(0, 7, 0)));
    }

    /** "of pairs the better one, or 0: a tie" */
    private static void tieOfPairsOnly() {
        TastingHouse house = Check.planned(7, Edge.TRIANGLE + "pair a against b;", 4);
        Check.due("in a triangle", house.answer(0, 0, 0), -1);
        Check.due("in a pair", house.answer(1, 0, 0), 1);
        Check.due("of the last taster", house.answer(1, 29, 0), 2);
        Check.due("once more", house.answer(1, 29, 0), 3);
    }

    /** "a SCORE of a TASTER in a SESSION (0 .. 9) for a PRODUCT (0 .. 100)" */
    private static void scoreLimits() {
        TastingHouse house = Check.planned(0, "product a;product b;product c;product d;product e;product f;", 6);
        int[][] good = {{0, 0, 0, 0}, {29, 0, 0, 1}, {0, 9, 0, 99}, {0, 0, 5, 100}, {29, 9, 5, 100}, {29, 9, 5, 0}};
        int act = 0;
        for (int[] g : good) {
            Check.due("score", house.score(g[0], g[1], g[2], g[3]), ++act);
        }
    }

    /** "likewise": NONE when something can't be, CODES are open. */
    private static void scoreRefused() {
        int[][] wrong = {{-1, 0, 0, 0}, {30, 0, 0, 0}, {0, -1, 0, 0}, {0, 10, 0, 0}, {0, 0, -1, 0}, {0, 0, 3, 0},
            {0, 0, 5, 0}, {0, 0, 0, -1}, {0, 0, 0, 101}, {30, 10, 3, 101}, {-1, -1, -1, -1}};
        for (int[] w : wrong) {
            Edge.refused("score", Edge::shut, h -> h.score(w[0], w[1], w[2], w[3]));
        }
        for (int far : FAR) {
            Edge.refused("score of " + far, Edge::shut, h -> h.score(far, 0, 0, 0));
            Edge.refused("score in " + far, Edge::shut, h -> h.score(0, far, 0, 0));
            Edge.refused("score for " + far, Edge::shut, h -> h.score(0, 0, far, 0));
            Edge.refused("score " + far, Edge::shut, h -> h.score(0, 0, 0, far));
        }
        Edge.refused("score while open", Edge::opened, h -> h.score(9, 9, 1, 50));
        Edge.refused("score while told before", Edge::toldBefore, h -> h.score(9, 9, 1, 50));
    }

    /** "A SWAP of two CUPS, by unlike CODES": of one taster, of two, alike inside, while open. */
    private static void swapLimits() {
        TastingHouse house = Check.planned(7, Edge.TRIANGLE + "pair a against b;", 4);
        Check.due("of one taster", house.swap(0, house.code(0, 0, 0), house.code(0, 0, 2)), 1);
        Check.due("alike inside", house.swap(0, house.code(0, 1, 0), house.code(0, 1, 2)), 2);
        Check.due("first and last", house.swap(0, house.code(0, 0, 0), house.code(0, 29, 2)), 3);
        Check.due("the same again", house.swap(0, house.code(0, 29, 2), house.code(0, 0, 0)), 4);
        house.open();
        Check.due("while open", house.swap(1, house.code(1, 0, 0), house.code(1, 29, 1)), 5);
        Check.due("swapped", house.inside(0, house.code(0, 0, 0)), 2);
        Check.due("back again", house.inside(0, house.code(0, 29, 2)), 2);
        Check.due("alike ones", house.inside(0, house.code(0, 1, 0)), 1);
        Check.due("another trial's", house.inside(1, house.code(1, 0, 0)), 1);
        Check.due("another taster's", house.inside(0, house.code(0, 28, 0)), 2);
    }

    /** "NONE when something can't be" */
    private static void swapRefused() {
        TastingHouse house = Edge.shut();
        int one = house.code(0, 0, 0);
        int two = house.code(0, 0, 1);
        int onlyInTriangle = house.code(0, 29, 2);
        int[][] wrong = {{-1, one, two}, {2, one, two}, {0, one, one}, {0, one, 0}, {0, 0, two}, {0, 0, 0}, {0, 99, two},
            {0, one, 1000}, {0, one, -1}, {0, one, -one}, {1, one, onlyInTriangle}, {1, onlyInTriangle, one},
            {0, Edge.MIN, Edge.MAX}, {Edge.MAX, one, two}, {Edge.MIN, one, two}, {0, Edge.MAX, one}, {0, one, Edge.MIN}};
        for (int[] w : wrong) {
            Edge.refused("swap " + w[0] + " " + w[1] + " " + w[2], Edge::shut, h -> h.swap(w[0], w[1], w[2]));
            Edge.refused("opened, swap " + w[0] + " " + w[1] + " " + w[2], Edge::opened, h -> h.swap(w[0], w[1], w[2]));
        }
    }

    /** "VOID: its ACT": the first act, the last one, of each kind. */
    private static void annulLimits() {
        TastingHouse house = Check.planned(7, Edge.PAIR, 3);
        house.answer(0, 0, 0);
        house.score(0, 0, 0, 1);
        house.swap(0, house.code(0, 0, 0), house.code(0, 1, 0));
        Check.due("the last one", house.annul(3), 4);
        Check.due("the first one", house.annul(1), 5);
        house.open();
        Check.due("while open", house.annul(2), 6);
        Check.due("the swap was not so", house.inside(0, house.code(0, 0, 0)), 1);
        Check.due("the score was not so", house.mean(0), -1000000);
        Check.due("the answer was not so", house.trial(0, 2), 0);
    }

    /** "NONE when there is none such, it is VOID or tells so" */
    private static void annulRefused() {
        int acts = Edge.shut().all(3);
        // Act 2 is VOID, the last one tells so.
        for (int act : new int[] {Edge.MIN, -2, -1, 0, 2, acts, acts + 1, 250, 251, Edge.MAX}) {
            Edge.refused("annul " + act, Edge::shut, h -> h.annul(act));
            Edge.refused("opened, annul " + act, Edge::opened, h -> h.annul(act));
            Edge.refused("told before it was void, annul " + act, Edge::toldBefore, h -> h.annul(act));
        }
        Edge.refused("no acts", TastingHouse::new, h -> h.annul(0));
    }

    /** "From now on all is told as known at an ACT (0: none; NONE: always the last one): true" */
    private static void asLimits() {
        TastingHouse house = Edge.opened();
        int acts = house.all(3);
        for (int act : new int[] {0, 1, acts - 1, acts}) {
            Check.due("as " + act, house.as(act), true);
            Check.due("told at " + act, house.all(4), act);
        }
        Check.due("as NONE", house.as(-1), true);
        Check.due("told at the last", house.all(4), acts);
        house.as(0);
        Check.due("nothing is known", house.trial(0, 3), 0);
        Check.due("nothing is known", house.answers(1), 0);
        Check.due("nothing is known", house.mean(0), -1000000);
        Check.due("as by its order", house.inside(0, house.code(0, 1, 1)), 2);
        TastingHouse fresh = new TastingHouse();
        Check.due("none of none", fresh.as(0), true);
    }

    /** "false when there is none such", and what was told is told */
    private static void asRefused() {
        int acts = Edge.shut().all(3);
        for (int act : new int[] {Edge.MIN, -3, -2, acts + 1, acts + 2, 250, 251, Edge.MAX}) {
            Edge.refused("as " + act, Edge::opened, h -> h.as(act) ? 1 : 0, 0);
            Edge.refused("told before, as " + act, Edge::toldBefore, h -> h.as(act) ? 1 : 0, 0);
            Edge.refused("new, as " + act, TastingHouse::new, h -> h.as(act) ? 1 : 0, 0);
        }
    }

    private static void asIsAlwaysTheLast() {
        TastingHouse house = Check.planned(0, Edge.PAIR, 3);
        house.answer(0, 0, house.code(0, 0, 0));
        Check.due("at the last", house.answers(0), 1);
        house.as(1);
        house.answer(0, 1, house.code(0, 1, 0));
        Check.due("at act 1 still", house.answers(0), 1);
        Check.due("at act 1 still", house.all(4), 1);
        house.as(-1);
        Check.due("at the last again", house.answers(0), 2);
        house.answer(0, 2, house.code(0, 2, 0));
        Check.due("always at the last", house.answers(0), 3);
        Check.due("always at the last", house.all(4), 3);
    }

    /** "CODES are open: true; false when they are so already, or there is no PLAN." */
    private static void openOnce() {
        Check.due("opens", Edge.shut().open(), true);
        Edge.refused("open already", Edge::opened, h -> h.open() ? 1 : 0, 0);
        Edge.refused("open already, told before", Edge::toldBefore, h -> h.open() ? 1 : 0, 0);
        Edge.refused("no plan", TastingHouse::new, h -> h.open() ? 1 : 0, 0);
        TastingHouse house = new TastingHouse();
        Check.write(house, "?");
        house.plan(0);
        Check.due("only a faulty one", house.open(), false);
        Check.write(house, Edge.PAIR);
        house.plan(-1);
        Check.due("only a seed that can't be", house.open(), false);
        house.plan(0);
        Check.due("a plan", house.open(), true);
    }

    /** "with open() they are open for good (then no ANSWER, no SCORE comes any more; SWAPS and VOID do)" */
    private static void openForGood() {
        TastingHouse house = Check.planned(0, Edge.PAIR, 3);
        house.answer(0, 0, 0);
        house.open();
        house.as(0);
        Check.due("told at none, no answer", house.answer(0, 1, 0), -1);
        Check.due("nor a score", house.score(0, 0, 0, 0), -1);
        Check.due("a swap", house.swap(0, house.code(0, 0, 0), house.code(0, 1, 0)), 2);
        Check.due("a void", house.annul(1), 3);
        Check.due("still open", house.all(5), 1);
        Check.write(house, "?");
        house.plan(0);
        Check.due("open behind a fault", house.all(5), 1);
        Check.write(house, Edge.PAIR);
        house.plan(0);
        Check.due("shut with a plan", house.all(5), 0);
        Check.due("answers come", house.answer(0, 1, 0), 1);
    }

    /** "While CODES are shut, nothing is told but how many ANSWERS count" */
    private static void shutTellsNothing() {
        TastingHouse house = Edge.shut();
        for (int what = -1; what <= 10; what++) {
            Check.due("trial " + what, house.trial(0, what), -1);
        }
        Check.due("chance above", house.chance(0, true), -1);
        Check.due("chance below", house.chance(0, false), -1);
        Check.due("inside", house.inside(0, house.code(0, 0, 0)), -1);
        Check.due("mean", house.mean(0), -1);
        Check.due("drift", house.drift(0), -1000000000);
        Check.due("scored", house.scored(0, 0, 0), -1);
        Check.due("claim", house.claim(0), -1);
        Check.due("answers", house.answers(0), 5);
        Check.due("answers of the pair", house.answers(1), 4);
    }

    private static TastingHouse withActs(int count) {
        TastingHouse house = Check.planned(7, Edge.PAIR, 3);
        for (int act = 1; act <= count; act++) {
            house.score(act % 30, act % 10, act % 2, act % 101);
        }
        Check.due("acts", house.all(3), count);
        return house;
    }

    /** "ACTS, numbered from 1 on (250 at most)": each kind may be the 250th, none the 251st. */
    private static void actsUpTo250() {
        TastingHouse house = withActs(249);
        Check.due("an answer is the 250th", house.answer(0, 0, 0), 250);
        Check.due("no answer behind", house.answer(0, 0, 0), -1);
        house = withActs(249);
        Check.due("a score is the 250th", house.score(0, 0, 0, 0), 250);
        Check.due("no score behind", house.score(0, 0, 0, 0), -1);
        house = withActs(249);
        Check.due("a swap is the 250th", house.swap(0, house.code(0, 0, 0), house.code(0, 0, 1)), 250);
        Check.due("no swap behind", house.swap(0, house.code(0, 0, 0), house.code(0, 0, 1)), -1);
        house = withActs(249);
        Check.due("a void is the 250th", house.annul(249), 250);
        Check.due("no void behind", house.annul(248), -1);
        house = withActs(250);
        Check.due("as the last", house.as(250), true);
        Check.due("as behind", house.as(251), false);
        Check.due("acts", house.all(3), 250);
        house = withActs(249);
        house.score(0, 9, 1, 48);
        house.open();
        Check.due("the 250th is known", house.scored(0, 9, 1), 480);
        house.as(249);
        Check.due("at 249 it is not", house.scored(0, 9, 1), -1);
    }

    /** "or there are 250": refused, and nothing else. */
    private static void fullRefuses() {
        Edge.refused("full: answer", Edge::full, h -> h.answer(0, 20, h.code(0, 20, 0)));
        Edge.refused("full: tie", Edge::full, h -> h.answer(1, 20, 0));
        Edge.refused("full: score", Edge::full, h -> h.score(1, 1, 1, 1));
        Edge.refused("full: swap", Edge::full, h -> h.swap(0, h.code(0, 0, 0), h.code(0, 0, 1)));
        Edge.refused("full: annul", Edge::full, h -> h.annul(1));
        Edge.refused("full: annul of the last", Edge::full, h -> h.annul(250));
    }

    private static void voidFreesNoRoom() {
        TastingHouse house = withActs(125);
        for (int act = 1; act <= 125; act++) {
            Check.due("void", house.annul(act), 125 + act);
        }
        Check.due("no score", house.score(0, 0, 0, 0), -1);
        Check.due("no tie", house.answer(0, 0, 0), -1);
        Check.due("acts", house.all(3), 250);
    }

    /** "As known at ACT n: ACTS up to n that are not VOID by n." */
    private static void voidByAnAct() {
        TastingHouse house = Check.planned(7, Edge.PAIR, 3);
        house.score(0, 0, 0, 10);
        house.score(1, 0, 0, 20);
        house.swap(0, house.code(0, 0, 0), house.code(0, 1, 0));
        house.annul(1);
        house.annul(3);
        house.open();
        int[] means = {-1000000, 100, 150, 150, 200, 200};
        int[] insides = {1, 1, 1, 2, 2, 1};
        for (int act = 0; act <= 5; act++) {
            house.as(act);
            Check.due("mean at " + act, house.mean(0), means[act]);
            Check.due("inside at " + act, house.inside(0, house.code(0, 0, 0)), insides[act]);
        }
    }

    /** "Of several ANSWERS of a TASTER in a TRIAL (SPOILT or not) .. the first known one counts." */
    private static void firstKnownAnswerCounts() {
        TastingHouse house = Check.planned(7, Edge.PAIR + "look 2 below 1 in 3;pair a against b;", 5);
        Edge.answer(house, false, 0, true);
        Edge.answer(house, false, 1, true);
        Edge.answer(house, false, 0, false);
        Edge.answer(house, false, 2, false);
        Edge.answer(house, false, 0, true);
        house.answer(1, 0, 0);
        Check.due("one each", house.answers(0), 3);
        Check.due("another trial's are apart", house.answers(1), 0);
        house.open();
        Check.due("two right: 1 / 4", house.trial(0, 5), 1);
        Check.due("void the first", house.annul(1), 7);
        Check.due("the second stands at its own act: 3 / 4", house.trial(0, 5), 0);
        Check.due("right", house.trial(0, 0), 1);
        Check.due("wrong", house.trial(0, 1), 2);
        Check.due("void the second", house.annul(3), 8);
        Check.due("the third counts, last of all", house.trial(0, 0), 2);
        Check.due("wrong", house.trial(0, 1), 1);
        house.swap(0, house.code(0, 0, 0), house.code(0, 1, 0));
        Check.due("two spoilt, each once", house.trial(0, 6), 2);
        Check.due("and the others", house.trial(0, 3), 1);
    }

    /** "SCORES of one in a SESSION for a PRODUCT, the first known one counts" */
    private static void firstKnownScoreCounts() {
        TastingHouse house = Check.planned(0, Edge.TWO, 2);
        house.score(3, 2, 1, 10);
        house.score(3, 2, 1, 20);
        house.score(3, 2, 0, 30);
        house.score(3, 1, 1, 40);
        house.score(4, 2, 1, 50);
        house.score(3, 2, 1, 60);
        house.annul(1);
        house.annul(2);
        house.open();
        int[] scored = {-1, 100, 100, 100, 100, 100, 100, 200, 600};
        for (int act = 0; act <= 8; act++) {
            house.as(act);
            Check.due("scored at " + act, house.scored(3, 2, 1), scored[act]);
        }
        Check.due("another product", house.scored(3, 2, 0), 300);
        Check.due("another session", house.scored(3, 1, 1), 400);
        Check.due("another taster", house.scored(4, 2, 1), 500);
    }
}
