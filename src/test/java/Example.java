/** The example of README.md: one house from its plan to its claims. */
public final class Example {
    private static final String PLAN = "product new; product old; triangle new against old; look 4 below 1 in 20;"
        + " pair new against old; ties half; scale own; reference old;"
        + " claim differ when stopped 0; claim better when mean new > mean old and least 1 > 0;";

    public static void main(String[] args) {
        TastingHouse house = new TastingHouse();
        write(house, "product new; product new;");
        tell("a faulty plan", house.plan(7));
        tell("its fault", house.fault(0));
        tell("at the byte", house.fault(1));

        write(house, PLAN);
        tell("statements", house.plan(7));
        int[] oddPlaces = {2, 1, 0, 2, 1, 0};
        for (int taster = 0; taster < 4; taster++) {
            house.answer(0, taster, house.code(0, taster, oddPlaces[taster]));
        }
        tell("a tie in the pair is act", house.answer(1, 0, 0));
        tell("a score is act", house.score(0, 0, 0, 70));
        tell("another", house.score(0, 0, 1, 40));
        tell("answers that count", house.answers(0));
        tell("right ones, while codes are shut", house.trial(0, 0));

        house.open();
        tell("right ones", house.trial(0, 0));
        tell("chance above the line", house.chance(0, true));
        tell("chance below the line", house.chance(0, false));
        tell("stopped at look", house.trial(0, 5));
        tell("claim 0 holds", house.claim(0));
        tell("cups were swapped, by act", house.swap(0, house.code(0, 0, 2), house.code(0, 0, 0)));
        tell("right ones now", house.trial(0, 0));
        tell("claim 0 now", house.claim(0));
        house.as(7);
        tell("claim 0, as known at act 7", house.claim(0));
        house.as(TastingHouse.NONE);
        tell("the swap was not so, by act", house.annul(8));
        tell("claim 0 again", house.claim(0));
        tell("mean of product 0", house.mean(0));

        tell("tasters needed", house.needed(true, 500, 50, 100));
        tell("uneven", house.orders(3, 6));
        tell("first of serving 5", house.served(5, 0));
        tell("uneven with 2 1 0 by hand", house.serves(0x012));
    }

    /** The text in twenties of bytes, the last one filled with blanks, which end() takes away. */
    private static void write(TastingHouse house, String text) {
        int[] fours = new int[5];
        for (int from = 0; from < text.length(); from += 20) {
            for (int i = 0; i < 20; i++) {
                int sign = from + i < text.length() ? text.charAt(from + i) : ' ';
                fours[i / 4] = fours[i / 4] << 8 | sign;
            }
            house.feed(fours[0], fours[1], fours[2], fours[3], fours[4]);
        }
        house.end(text.length());
    }

    private static void tell(String what, long value) {
        System.out.println(what + ": " + value);
    }
}
