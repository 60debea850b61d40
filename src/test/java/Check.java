/** What the tests of the project share: answers that are due, and texts put on the tape. */
final class Check {
    private static int wrong = 0;
    private static int checked = 0;

    private Check() {
    }

    static void due(String call, long got, long want) {
        checked++;
        if (got != want) {
            wrong++;
            System.out.println(call + " answered " + got + ", due is " + want);
        }
    }

    static void due(String call, boolean got, boolean want) {
        due(call, got ? 1 : 0, want ? 1 : 0);
    }

    /** The text comes on the tape in twenties of bytes, the last one cut by end(). */
    static void write(TastingHouse house, String text) {
        int length = 0;
        for (int from = 0; from < text.length(); from += 20) {
            length = house.feed(four(text, from), four(text, from + 4), four(text, from + 8),
                four(text, from + 12), four(text, from + 16));
        }
        house.end(length - (20 - text.length() % 20) % 20);
    }

    static int four(String text, int from) {
        int number = 0;
        for (int i = from; i < from + 4; i++) {
            number = number << 8 | (i < text.length() ? text.charAt(i) & 255 : ' ');
        }
        return number;
    }

    static TastingHouse planned(int seed, String text, int statements) {
        TastingHouse house = new TastingHouse();
        write(house, text);
        due("plan of " + text, house.plan(seed), statements);
        return house;
    }

    /** Ends the test: exit code 1 if an answer was wrong. */
    static void end() {
        System.out.println(checked + " answers looked at, " + wrong + " wrong");
        if (wrong != 0) {
            System.exit(1);
        }
    }
}
