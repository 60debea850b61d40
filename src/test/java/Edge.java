import java.util.function.Supplier;
import java.util.function.ToLongFunction;

/**
 * For tests of edges: houses in several states, all that a house tells, and calls that are refused. A refused
 * call is made on one of two houses with the same past; behind it both must tell the same.
 */
final class Edge {
    static final int MIN = Integer.MIN_VALUE;
    static final int MAX = Integer.MAX_VALUE;
    static final String TWO = "product a;product b;";
    static final String TRIANGLE = TWO + "triangle a against b;";
    static final String PAIR = TWO + "pair a against b;";

    private static final String RICH = "product a;product b;product c;triangle a against b;look 3 below 1 in 2;"
        + "pair b against c;look 2 below 1 in 3;ties half;scale own;reference c;claim d when stopped 0;"
        + "claim e when mean a>mean b;claim f when chance 1<500*1000;";
    private static final int RICH_STATEMENTS = 13;
    private static final int SEED = 7;

    private Edge() {
    }

    /** A plan with all that there can be, some acts of each kind, orders laid, and a text on the tape. */
    static TastingHouse shut() {
        TastingHouse house = Check.planned(SEED, RICH, RICH_STATEMENTS);
        for (int taster = 0; taster < 6; taster++) {
            house.answer(0, taster, house.code(0, taster, taster % 3));
        }
        for (int taster = 0; taster < 4; taster++) {
            house.answer(1, taster, taster == 2 ? 0 : house.code(1, taster, 0));
            house.score(taster, taster % 2, 0, 10 * taster);
            house.score(taster, taster % 2, 2, 50 + 7 * taster);
        }
        house.score(1, 4, 1, 33);
        house.swap(0, house.code(0, 1, 1), house.code(0, 4, 0));
        house.annul(2);
        house.orders(3, 4);
        Check.write(house, "product z;scale own;");
        return house;
    }

    static TastingHouse opened() {
        TastingHouse house = shut();
        house.open();
        return house;
    }

    /** Told as known at an act in the midst. */
    static TastingHouse toldBefore() {
        TastingHouse house = opened();
        house.as(9);
        return house;
    }

    static TastingHouse full() {
        TastingHouse house = shut();
        for (int act = house.all(3); act < 250; act++) {
            Check.due("act towards the last", house.score(act % 30, act % 10, act % 3, act % 101), act + 1);
        }
        return house;
    }

    /** The call answers as due, and the house tells what it would tell without it. */
    static void refused(String what, Supplier<TastingHouse> make, ToLongFunction<TastingHouse> call, long answer) {
        TastingHouse house = make.get();
        Check.due(what, call.applyAsLong(house), answer);
        same(what, house, make.get());
    }

    static void refused(String what, Supplier<TastingHouse> make, ToLongFunction<TastingHouse> call) {
        refused(what, make, call, TastingHouse.NONE);
    }

    /** Uses both houses up. */
    static void same(String what, TastingHouse house, TastingHouse other) {
        String[] got = told(house).split("\n");
        String[] want = told(other).split("\n");
        Check.due(what + ": as much is told", got.length, want.length);
        for (int i = 0; i < Math.min(got.length, want.length); i++) {
            Check.due(what + " changed " + want[i] + " to " + got[i], got[i].equals(want[i]), true);
        }
    }

    /** All that a house tells, as it is and opened; the house is used up by it. */
    static String told(TastingHouse house) {
        StringBuilder text = new StringBuilder();
        put(text, "tape", tapeLength(house));
        put(text, "fault", house.fault(0));
        put(text, "place", house.fault(1));
        for (int what = 0; what <= 6; what++) {
            put(text, "all " + what, house.all(what));
        }
        putCodes(text, house);
        putServings(text, house);
        put(text, "answers", house.answers(0) * 100 + house.answers(1));
        put(text, "opens", house.open() ? 1 : 0);
        putOpened(text, house);
        if (house.all(4) != house.all(3)) {
            house.as(TastingHouse.NONE);
            putOpened(text, house);
        }
        put(text, "text", house.plan(0));
        put(text, "its fault", house.fault(0));
        put(text, "its place", house.fault(1));
        return text.toString();
    }

    private static void put(StringBuilder text, String what, long value) {
        text.append(what).append(" = ").append(value).append('\n');
    }

    static int tapeLength(TastingHouse house) {
        int length = house.feed(0, 0, 0, 0, 0);
        if (length != TastingHouse.NONE) {
            house.end(length - 20);
            return length - 20;
        }
        length = 700;
        while (length > 0 && !house.end(length)) {
            length--;
        }
        return length;
    }

    private static void putCodes(StringBuilder text, TastingHouse house) {
        for (int trial = 0; trial < 2; trial++) {
            for (int taster = 0; taster < 30; taster += 29) {
                put(text, "code", house.code(trial, taster, 0) * 1000 + house.code(trial, taster, 1));
            }
        }
    }

    private static void putServings(StringBuilder text, TastingHouse house) {
        for (int i = 0; i < 6; i++) {
            for (int place = 0; place < 3; place++) {
                put(text, "served " + i, house.served(i, place));
            }
        }
    }

    private static void putOpened(StringBuilder text, TastingHouse house) {
        for (int trial = 0; trial < 2; trial++) {
            for (int what = 0; what <= 9; what++) {
                put(text, "trial " + trial + " " + what, house.trial(trial, what));
            }
            put(text, "chance " + trial, house.chance(trial, true));
            for (int taster = 0; taster < 5; taster += 4) {
                put(text, "inside", house.inside(trial, house.code(trial, taster, 0)));
            }
        }
        for (int product = 0; product < 3; product++) {
            put(text, "mean " + product, house.mean(product));
            put(text, "scored " + product, house.scored(1, 1, product));
            put(text, "claim " + product, house.claim(product));
        }
        for (int session = 0; session < 5; session++) {
            put(text, "drift " + session, house.drift(session));
        }
    }

    /** An answer in trial 0, where nothing is swapped: right, or by the code at the next place. */
    static void answer(TastingHouse house, boolean triangle, int taster, boolean right) {
        int place = triangle ? new int[] {2, 1, 0, 2, 1, 0}[taster % 6] : taster % 2;
        house.answer(0, taster, house.code(0, taster, right ? place : (place + 1) % (triangle ? 3 : 2)));
    }

    static void goes(String text, int statements) {
        Check.planned(0, text, statements);
    }

    /** The mark ^ stands ahead of the byte at which the fault is, and is no part of the text. */
    static void faulty(int fault, String marked) {
        String text = marked.replace("^", "");
        Check.due("one mark in " + marked, marked.length() - text.length(), 1);
        TastingHouse house = new TastingHouse();
        Check.write(house, text);
        Check.due("plan of " + marked, house.plan(0), TastingHouse.NONE);
        Check.due("fault of " + marked, house.fault(0), fault);
        Check.due("place of " + marked, house.fault(1), marked.indexOf('^'));
    }

    /** Puts a text on the tape in the stead of what it holds. */
    static void rewrite(TastingHouse house, String text) {
        house.end(0);
        Check.write(house, text);
    }
}
