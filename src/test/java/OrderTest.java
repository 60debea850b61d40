/** Promises 24 to 26: orders of serving. */
public final class OrderTest {
    public static void main(String[] args) {
        two();
        three();
        byHand();
        wrongInputs();
        againstModel();
        Check.end();
    }

    private static void row(TastingHouse house, int i, int... want) {
        for (int place = 0; place < want.length; place++) {
            Check.due("row " + i + " place " + place, house.served(i, place), want[place]);
        }
    }

    private static void two() {
        TastingHouse house = new TastingHouse();
        // One row: each of four places is 1 from 1, so is each of two pairs.
        Check.due("one of two", house.orders(2, 1), 6);
        row(house, 0, 0, 1, -1);
        Check.due("two of two", house.orders(2, 2), 0);
        row(house, 0, 0, 1);
        row(house, 1, 1, 0);
        row(house, 2, -1, -1);
        row(house, -1, -1, -1);
    }

    private static void three() {
        TastingHouse house = new TastingHouse();
        Check.due("six of three", house.orders(3, 6), 0);
        boolean[] seen = new boolean[27];
        for (int i = 0; i < 6; i++) {
            int number = house.served(i, 0) * 9 + house.served(i, 1) * 3 + house.served(i, 2);
            Check.due("unlike rows", seen[number], false);
            seen[number] = true;
        }
        Check.due("none behind", house.served(6, 0), -1);
        Check.due("no place", house.served(0, 3), -1);
        Check.due("no place below", house.served(0, -1), -1);
    }

    private static void byHand() {
        TastingHouse house = new TastingHouse();
        Check.due("nothing laid", house.serves(0x10), -1);
        house.orders(2, 1);
        Check.due("the same once more", house.serves(0x10), 24);
        Check.due("the other", house.serves(0x01), 6);
        row(house, 1, 0, 1);
        row(house, 2, 1, 0);
        int[] wrong = {0x00, 0x11, 0x20, 0x110, 0x12, -1, 0x80000010, 0x210, 0x10000010};
        for (int number : wrong) {
            Check.due("wrong row", house.serves(number), -1);
        }
        for (int i = 3; i < 30; i++) {
            house.serves(0x10);
        }
        Check.due("30 at most", house.serves(0x10), -1);
        Check.due("the thirtieth", house.served(29, 1), 1);
        house.orders(5, 30);
        Check.due("30 laid", house.serves(0x43210), -1);
        house.orders(5, 29);
        Check.due("wrong: a sixth thing", house.serves(0x043215), -1);
        Check.due("wrong: too long", house.serves(0x143210), -1);
        int uneven = house.serves(0x01234);
        Check.due("laid", uneven >= 0, true);
        row(house, 29, 4, 3, 2, 1, 0);
        Check.write(house, "");
        house.plan(0);
        row(house, 29, 4, 3, 2, 1, 0);
    }

    private static void wrongInputs() {
        TastingHouse house = new TastingHouse();
        house.orders(3, 2);
        int[][] wrong = {{1, 5}, {6, 5}, {3, 0}, {3, 31}, {-1, 1}, {0, 0}, {2, -1}, {Integer.MAX_VALUE, 30}};
        for (int[] w : wrong) {
            Check.due("wrong orders", house.orders(w[0], w[1]), -1);
        }
        row(house, 0, 0, 1, 2);
        Check.due("those laid stay", house.served(1, 0) >= 0, true);
    }

    private static void againstModel() {
        for (int t = 2; t <= 5; t++) {
            for (int n = 1; n <= 30; n += t == 5 ? 29 : 1) {
                TastingHouse house = new TastingHouse();
                Model model = new Model();
                Check.due(n + " of " + t, house.orders(t, n), model.orders(t, n));
                for (int i = 0; i < n; i++) {
                    for (int place = 0; place < t; place++) {
                        Check.due("row " + i, house.served(i, place), model.served(i, place));
                    }
                }
            }
        }
    }
}
