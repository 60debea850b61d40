/** Term IV's orders at their edges, and promises 24 to 27. */
public final class OrderEdgeTest {
    private static final int[] FAR = {Edge.MIN, Edge.MIN + 1, -1000, Edge.MAX - 1, Edge.MAX};

    public static void main(String[] args) {
        ordersLimits();
        ordersRefused();
        firstOfSeveral();
        unevenByHand();
        servedLimits();
        servedOfLatest();
        servesUpTo30();
        servesRefused();
        servesLowestFirst();
        servesCounts();
        plansLeaveOrders();
        allLimits();
        allRefused();
        Check.end();
    }

    /** "ORDERS of t things (2 .. 5) for n (1 .. 30) servings: each a row of all of them." */
    private static void ordersLimits() {
        for (int t = 2; t <= 5; t++) {
            for (int n : new int[] {1, 2, 29, 30}) {
                TastingHouse house = new TastingHouse();
                Check.due("laid " + n + " of " + t, house.orders(t, n) >= 0, true);
                for (int i = 0; i < n; i++) {
                    Check.due("a row of all", things(house, i, t), (1 << t) - 1);
                }
                Check.due("no more", house.served(n, 0), -1);
            }
        }
    }

    private static int things(TastingHouse house, int i, int t) {
        int things = 0;
        for (int place = 0; place < t; place++) {
            int thing = house.served(i, place);
            things |= thing < 0 ? 0 : 1 << thing;
        }
        return things;
    }

    private static TastingHouse bare() {
        return new TastingHouse();
    }

    /** "NONE when something can't be": those laid stay. */
    private static void ordersRefused() {
        int[][] wrong = {{1, 1}, {6, 1}, {0, 1}, {-2, 1}, {2, 0}, {2, 31}, {5, 0}, {5, 31}, {2, -1}, {1, 0}, {6, 31}, {16, 30}};
        for (int[] w : wrong) {
            Edge.refused("orders " + w[0] + " " + w[1], Edge::shut, h -> h.orders(w[0], w[1]));
            Edge.refused("orders " + w[0] + " " + w[1], OrderEdgeTest::bare, h -> h.orders(w[0], w[1]));
        }
        for (int far : FAR) {
            Edge.refused("t " + far, Edge::shut, h -> h.orders(far, 1));
            Edge.refused("n " + far, Edge::shut, h -> h.orders(2, far));
        }
        TastingHouse house = new TastingHouse();
        house.orders(2, 1);
        house.orders(3, 31);
        Check.due("still of two things", house.serves(0x01), 0);
    }

    private static void row(TastingHouse house, int i, int... want) {
        for (int place = 0; place < want.length; place++) {
            Check.due("row " + i + " place " + place, house.served(i, place), want[place]);
        }
        Check.due("row " + i + " ends", house.served(i, want.length), -1);
    }

    /** "of several the first in the order of rows as words" */
    private static void firstOfSeveral() {
        for (int t = 2; t <= 5; t++) {
            TastingHouse house = new TastingHouse();
            house.orders(t, 1);
            for (int place = 0; place < t; place++) {
                Check.due("all are alike at first", house.served(0, place), place);
            }
        }
        TastingHouse house = new TastingHouse();
        house.orders(2, 3);
        row(house, 0, 0, 1);
        row(house, 1, 1, 0);
        row(house, 2, 0, 1);
        // Each row but 012 shares just one place or pair with 012; behind 012 and 021 four rows share two.
        house.orders(3, 3);
        row(house, 0, 0, 1, 2);
        row(house, 1, 0, 2, 1);
        row(house, 2, 1, 0, 2);
    }

    /** "how far the number of times .. is, times t, from the number of rows, squared; .. added up" */
    private static void unevenByHand() {
        TastingHouse house = new TastingHouse();
        // Each of four places and two pairs is off by 1.
        Check.due("01", house.orders(2, 1), 6);
        Check.due("01 10", house.orders(2, 2), 0);
        Check.due("01 10 01", house.orders(2, 3), 6);
        // Three things stood at a place once (3 - 1), six not; two pairs once, four not.
        Check.due("012", house.orders(3, 1), 3 * 4 + 6 + 2 * 4 + 4);
        // Four stood once (4 - 1), twelve not; three pairs once, nine not.
        Check.due("0123", house.orders(4, 1), 4 * 9 + 12 + 3 * 9 + 9);
        Check.due("01234", house.orders(5, 1), 5 * 16 + 20 + 4 * 16 + 16);
        Check.due("all rows of three", house.orders(3, 6), 0);
        house.orders(2, 1);
        for (int rows = 2; rows <= 30; rows++) {
            Check.due("01 " + rows + " times", house.serves(0x10), 6 * rows * rows);
        }
    }

    /** "The thing at a place of serving i .. NONE when there is none such." */
    private static void servedLimits() {
        TastingHouse house = new TastingHouse();
        house.orders(5, 30);
        Check.due("the last of the last", house.served(29, 4) >= 0, true);
        int[][] none = {{-1, 0}, {30, 0}, {0, -1}, {0, 5}, {29, 5}, {30, 4}, {31, 0}, {-1, -1}};
        for (int[] w : none) {
            Check.due("served " + w[0] + " " + w[1], house.served(w[0], w[1]), -1);
        }
        house.orders(2, 1);
        Check.due("two places", house.served(0, 1), 1);
        Check.due("no third", house.served(0, 2), -1);
        Check.due("no second row", house.served(1, 0), -1);
        for (int far : FAR) {
            Edge.refused("row " + far, Edge::shut, h -> h.served(far, 0));
            Edge.refused("place " + far, Edge::shut, h -> h.served(0, far));
        }
    }

    /** "of the latest orders() that laid some" */
    private static void servedOfLatest() {
        TastingHouse house = new TastingHouse();
        house.orders(5, 30);
        house.orders(2, 2);
        row(house, 1, 1, 0);
        Check.due("only two", house.served(2, 0), -1);
        house.serves(0x10);
        house.orders(6, 1);
        house.orders(2, 0);
        row(house, 2, 0, 1);
        Check.due("only three", house.served(3, 0), -1);
        house.orders(3, 1);
        row(house, 0, 0, 1, 2);
        Check.due("those laid by hand go too", house.served(1, 0), -1);
    }

    /** "behind those laid (30 at most)" */
    private static void servesUpTo30() {
        TastingHouse house = new TastingHouse();
        house.orders(3, 29);
        Check.due("the thirtieth", house.serves(0x012) >= 0, true);
        row(house, 29, 2, 1, 0);
        Check.due("no more", house.serves(0x012), -1);
        Check.due("none laid", house.served(30, 0), -1);
        row(house, 29, 2, 1, 0);
        house.orders(3, 30);
        Check.due("none behind thirty", house.serves(0x210), -1);
        house.orders(3, 1);
        Check.due("but behind one", house.serves(0x210) >= 0, true);
    }

    /** "of as many things as these .. NONE when something can't be" */
    private static void servesRefused() {
        // Three things are laid: one twice, a fourth thing, too few, too many, bits above.
        int[] wrong = {0x000, 0x011, 0x211, 0x220, 0x310, 0x021 | 0x300, 0x10, 0x01, 0x3210, 0x1210, 0x10210, 0x80000210,
            0xf0000210, 0x01000210, 0xf10, 0x2f0, -1, Edge.MIN, Edge.MAX, 0x321, 0x222};
        for (int row : wrong) {
            Edge.refused("row " + Integer.toHexString(row), Edge::shut, h -> h.serves(row));
        }
        TastingHouse house = new TastingHouse();
        for (int row : new int[] {0, 0x10, 0x210, -1}) {
            Check.due("nothing is laid", house.serves(row), -1);
        }
        house.orders(5, 1);
        for (int row : new int[] {0x43211, 0x53210, 0x143210, 0x80043210, 0x3210, 0x54321}) {
            Check.due("of five things", house.serves(row), -1);
        }
        Check.due("a row of five", house.serves(0x43210) >= 0, true);
        house.orders(2, 1);
        for (int row : new int[] {0x00, 0x11, 0x21, 0x20, 0x110, 0x210}) {
            Check.due("of two things", house.serves(row), -1);
        }
        Check.due("a row of two", house.serves(0x01), 0);
    }

    /** "as a number, its first thing the lowest of four bits" */
    private static void servesLowestFirst() {
        TastingHouse house = new TastingHouse();
        house.orders(5, 1);
        house.serves(0x30412);
        row(house, 1, 2, 1, 4, 0, 3);
        house.orders(4, 1);
        house.serves(0x0231);
        row(house, 1, 1, 3, 2, 0);
        house.orders(2, 1);
        house.serves(0x10);
        row(house, 1, 0, 1);
        house.serves(0x01);
        row(house, 2, 1, 0);
    }

    /** A refused row counts for nothing, a laid one counts in UNEVEN. */
    private static void servesCounts() {
        TastingHouse house = new TastingHouse();
        house.orders(2, 1);
        house.serves(0x11);
        house.serves(0x20);
        Check.due("as if they had not been", house.serves(0x10), 24);
        house.serves(0x00);
        Check.due("nor this one", house.serves(0x01), 6);
        Check.due("even again", house.serves(0x01), 0);
    }

    private static void plansLeaveOrders() {
        TastingHouse house = new TastingHouse();
        house.orders(2, 2);
        Check.write(house, Edge.PAIR);
        house.plan(0);
        house.open();
        row(house, 1, 1, 0);
        Check.due("they go on", house.serves(0x10), 6);
    }

    private static void dueAll(TastingHouse house, int... want) {
        for (int what = 0; what < want.length; what++) {
            Check.due("all " + what, house.all(what), want[what]);
        }
    }

    /** "Of all: 0 PRODUCTS, 1 TRIALS, 2 CLAIMS, 3 ACTS, 4 the ACT .., 5 whether CODES are open (1, 0), 6 LOOKS" */
    private static void allLimits() {
        TastingHouse house = new TastingHouse();
        dueAll(house, 0, 0, 0, 0, 0, 0, 0);
        String looks = "look 1 below 1 in 9;look 2 below 1 in 9;look 3 below 1 in 9;look 4 below 1 in 9;look 5 below 1 in 9;";
        StringBuilder text = new StringBuilder("product a;product b;product c;product d;product e;product f;");
        for (int trial = 0; trial < 4; trial++) {
            text.append("pair a against b;").append(trial < 3 ? looks : "");
        }
        for (char name = 's'; name < 's' + 8; name++) {
            text.append("claim ").append(name).append(" when 1=1;");
        }
        Check.write(house, text.toString());
        Check.due("a plan of all there can be", house.plan(0), 33);
        dueAll(house, 6, 4, 8, 0, 0, 0, 15);
        for (int act = 1; act <= 250; act++) {
            house.score(0, 0, 0, 0);
        }
        dueAll(house, 6, 4, 8, 250, 250, 0, 15);
        house.open();
        house.as(17);
        dueAll(house, 6, 4, 8, 250, 17, 1, 15);
        house.as(0);
        dueAll(house, 6, 4, 8, 250, 0, 1, 15);
        house.as(-1);
        dueAll(house, 6, 4, 8, 250, 250, 1, 15);
        house.plan(0);
        dueAll(house, 0, 0, 0, 0, 0, 0, 0);
    }

    /** "NONE for others." */
    private static void allRefused() {
        for (int what : new int[] {Edge.MIN, -2, -1, 7, 8, Edge.MAX}) {
            Edge.refused("all " + what, TastingHouse::new, h -> h.all(what));
            Edge.refused("all " + what, Edge::opened, h -> h.all(what));
        }
    }
}
