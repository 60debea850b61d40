/** Promises 7 to 12: answers, scores, swaps, voids, what is known at an act, opening. */
public final class ActTest {
    private static final String PLAN = "product a;product b;triangle a against b;pair b against a;";

    public static void main(String[] args) {
        answers();
        scores();
        swaps();
        voids();
        knownAtAnAct();
        opening();
        full();
        Check.end();
    }

    private static TastingHouse house() {
        return Check.planned(7, PLAN, 4);
    }

    private static void answers() {
        TastingHouse house = house();
        Check.due("a code of theirs", house.answer(0, 0, 969), 1);
        Check.due("once more", house.answer(0, 0, 415), 2);
        Check.due("another one's code", house.answer(0, 1, 969), -1);
        Check.due("no code", house.answer(0, 0, 968), -1);
        Check.due("a tie in a triangle", house.answer(0, 0, 0), -1);
        Check.due("a tie in a pair", house.answer(1, 29, 0), 3);
        Check.due("a code in a pair", house.answer(1, 1, 488), 4);
        Check.due("a triangle's code in a pair", house.answer(1, 0, 488), -1);
        Check.due("below", house.answer(0, 0, -1), -1);
        Check.due("no taster", house.answer(1, 30, 0), -1);
        Check.due("no taster below", house.answer(1, -1, 0), -1);
        Check.due("no trial", house.answer(2, 0, 969), -1);
        Check.due("no trial below", house.answer(-1, 0, 969), -1);
        Check.due("acts", house.all(3), 4);
        Check.due("without a plan", new TastingHouse().answer(0, 0, 0), -1);
    }

    private static void scores() {
        TastingHouse house = house();
        Check.due("least", house.score(0, 0, 0, 0), 1);
        Check.due("greatest", house.score(29, 9, 1, 100), 2);
        Check.due("again", house.score(29, 9, 1, 50), 3);
        int[][] wrong = {{30, 0, 0, 0}, {-1, 0, 0, 0}, {0, 10, 0, 0}, {0, -1, 0, 0}, {0, 0, 2, 0}, {0, 0, -1, 0},
            {0, 0, 0, 101}, {0, 0, 0, -1}};
        for (int[] w : wrong) {
            Check.due("wrong score", house.score(w[0], w[1], w[2], w[3]), -1);
        }
        Check.due("acts", house.all(3), 3);
    }

    private static void swaps() {
        TastingHouse house = house();
        Check.due("of one taster", house.swap(0, 969, 488), 1);
        Check.due("the same", house.swap(0, 969, 969), -1);
        Check.due("no code", house.swap(0, 968, 969), -1);
        Check.due("no other", house.swap(0, 969, 0), -1);
        Check.due("no trial", house.swap(2, 969, 488), -1);
        Check.due("no trial below", house.swap(-1, 969, 488), -1);
        Check.due("of two tasters", house.swap(0, 969, house.code(0, 29, 2)), 2);
        house.open();
        Check.due("while open", house.swap(1, 969, 415), 3);
        Check.due("inside", house.inside(1, 969), 2);
        Check.due("inside the other", house.inside(1, 415), 1);
        Check.due("swap upon swap", house.swap(1, 415, 488), 4);
        Check.due("inside", house.inside(1, 415), 2);
        Check.due("inside", house.inside(1, 488), 1);
        Check.due("void the first", house.annul(3), 5);
        Check.due("only the second", house.inside(1, 969), 1);
        Check.due("two alike", house.inside(1, 415), 2);
        Check.due("two alike", house.inside(1, 488), 2);
        Check.due("each trial has its own", house.inside(0, 415), 1);
    }

    private static void voids() {
        TastingHouse house = house();
        Check.due("none such", house.annul(1), -1);
        house.answer(1, 0, 0);
        house.score(0, 0, 0, 7);
        house.swap(0, 969, 488);
        Check.due("act 0", house.annul(0), -1);
        Check.due("act -1", house.annul(-1), -1);
        Check.due("behind", house.annul(4), -1);
        Check.due("an answer", house.annul(1), 4);
        Check.due("void already", house.annul(1), -1);
        Check.due("tells so", house.annul(4), -1);
        Check.due("a score", house.annul(2), 5);
        house.open();
        Check.due("while open", house.annul(3), 6);
        Check.due("no score", house.scored(0, 0, 0), -1);
        house.as(3);
        Check.due("void already, whatever is told", house.annul(2), -1);
        Check.due("not void at 3", house.scored(0, 0, 0), 70);
    }

    private static void knownAtAnAct() {
        TastingHouse house = house();
        Check.due("as 0", house.as(0), true);
        Check.due("as 1", house.as(1), false);
        Check.due("as -2", house.as(-2), false);
        Check.due("as NONE", house.as(TastingHouse.NONE), true);
        house.answer(1, 0, 969);
        house.answer(1, 0, 415);
        house.annul(1);
        house.answer(1, 1, 488);
        house.open();
        int[] right = {0, 1, 1, 0, 0};
        int[] wrong = {0, 0, 0, 1, 2};
        for (int act = 0; act <= 4; act++) {
            Check.due("as " + act, house.as(act), true);
            Check.due("right at " + act, house.trial(1, 0), right[act]);
            Check.due("wrong at " + act, house.trial(1, 1), wrong[act]);
        }
        house.as(2);
        house.swap(1, 969, 415);
        Check.due("stays at 2", house.all(4), 2);
        Check.due("the swap is not known", house.inside(1, 969), 1);
        house.as(-1);
        Check.due("the last", house.all(4), 5);
        Check.due("the swap is known", house.inside(1, 969), 2);
        Check.due("behind", house.as(6), false);
        Check.due("stays", house.all(4), 5);
    }

    private static void opening() {
        TastingHouse house = house();
        house.answer(1, 0, 0);
        house.score(0, 0, 0, 1);
        Check.due("shut trial", house.trial(0, 0), -1);
        Check.due("shut chance", house.chance(0, true), -1);
        Check.due("shut inside", house.inside(0, 969), -1);
        Check.due("shut mean", house.mean(0), -1);
        Check.due("shut drift", house.drift(0), -1000000000);
        Check.due("shut scored", house.scored(0, 0, 0), -1);
        Check.due("shut claim", house.claim(0), -1);
        Check.due("answers are told", house.answers(0), 0);
        Check.due("opens", house.open(), true);
        Check.due("is open", house.open(), false);
        Check.due("no answer", house.answer(1, 1, 0), -1);
        Check.due("no score", house.score(0, 1, 0, 1), -1);
        Check.due("acts", house.all(3), 2);
        Check.due("scored", house.scored(0, 0, 0), 10);
    }

    private static void full() {
        TastingHouse house = house();
        for (int act = 1; act <= 249; act++) {
            Check.due("score", house.score(act % 30, act / 30, 0, 1), act);
        }
        Check.due("the last", house.swap(0, 969, 415), 250);
        Check.due("answer", house.answer(1, 0, 0), -1);
        Check.due("score", house.score(0, 0, 0, 0), -1);
        Check.due("swap", house.swap(0, 969, 415), -1);
        Check.due("annul", house.annul(1), -1);
        Check.due("acts", house.all(3), 250);
        Check.due("as the last", house.as(250), true);
        Check.due("as behind", house.as(251), false);
    }
}
