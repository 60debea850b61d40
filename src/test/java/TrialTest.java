/** Promises 13 to 19: how answers count, looks, chances, the table, least, most, needed. */
public final class TrialTest {
    public static void main(String[] args) {
        ordersOfCups();
        ties("half", 5, 2, 5);
        ties("lose", 5, 1, 5);
        ties("drop", 2, 1, 2);
        looks();
        tiesAtLooks();
        spoilt();
        wrongInputs();
        chances();
        greatestChance();
        table();
        needed();
        leastAndMost(true);
        leastAndMost(false);
        Check.end();
    }

    private static TastingHouse house(String kind, String rest, int statements) {
        return Check.planned(11, "product a;product b;" + kind + " a against b;" + rest, statements);
    }

    private static void ordersOfCups() {
        String[] triangles = {"112", "121", "211", "221", "212", "122"};
        String[] pairs = {"12", "21"};
        TastingHouse house = house("triangle", "pair b against a;", 4);
        house.open();
        for (int taster = 0; taster < 30; taster++) {
            for (int place = 0; place < 3; place++) {
                Check.due("triangle", house.inside(0, house.code(0, taster, place)), triangles[taster % 6].charAt(place) - '0');
                if (place < 2) {
                    Check.due("pair", house.inside(1, house.code(1, taster, place)), pairs[taster % 2].charAt(place) - '0');
                }
            }
        }
    }

    private static void ties(String how, int n, int k, int shut) {
        TastingHouse house = house("pair", "ties lose;ties " + how + ";", 5);
        Edge.answer(house, false, 0, true);
        Edge.answer(house, false, 1, false);
        house.answer(0, 2, 0);
        house.answer(0, 3, 0);
        house.answer(0, 4, 0);
        house.answer(0, 4, house.code(0, 4, 0));
        Check.due(how + " while shut", house.answers(0), shut);
        house.open();
        int[] want = {1, 1, 3, n, k, 0, 0};
        for (int what = 0; what < want.length; what++) {
            Check.due(how + " " + what, house.trial(0, what), want[what]);
        }
        Check.due(how + " below", house.chance(0, false), 1L << n);
        Check.due(how + " above", house.chance(0, true), house.guess(false, k, n));
    }

    private static void looks() {
        // 3 of 3 in triangles: 1 / 27, not below 1 / 27; 4 of 4: 1 / 81, below 13 / 1000.
        TastingHouse house = house("triangle", "look 3 below 1 in 27;look 4 below 13 in 1000;look 6 below 1 in 1;", 6);
        for (int taster = 0; taster < 7; taster++) {
            Edge.answer(house, true, taster, taster != 4);
        }
        Check.due("all answers", house.answers(0), 7);
        house.open();
        Check.due("stopped at the second", house.trial(0, 5), 2);
        Check.due("right", house.trial(0, 0), 4);
        Check.due("wrong", house.trial(0, 1), 0);
        Check.due("N", house.trial(0, 3), 4);
        Check.due("chance in a million, rounded up", house.trial(0, 9), 12346);
        Check.due("chance up to there, above", house.chance(0, true), 1);
        Check.due("chance up to there, below", house.chance(0, false), 81);
        house.annul(2);
        Check.due("without one it goes on", house.trial(0, 5), 3);
        Check.due("right", house.trial(0, 0), 5);
        Check.due("wrong", house.trial(0, 1), 1);
        house.as(3);
        Check.due("at 3 not stopped", house.trial(0, 5), 0);
        Check.due("no look is passed", house.trial(0, 0), 3);
        Check.due("answers at 3", house.answers(0), 3);
    }

    private static void tiesAtLooks() {
        String look = "look 2 below 1 in 2;";
        for (String how : new String[] {"drop", "lose", "half"}) {
            TastingHouse house = house("pair", "ties " + how + ";" + look, 5);
            Edge.answer(house, false, 0, true);
            house.answer(0, 1, 0);
            Edge.answer(house, false, 2, true);
            Edge.answer(house, false, 3, false);
            house.open();
            boolean drop = how.equals("drop");
            Check.due(how + " stops", house.trial(0, 5), drop ? 1 : 0);
            Check.due(how + " N", house.trial(0, 3), drop ? 2 : 4);
            Check.due(how + " tied", house.trial(0, 2), 1);
            Check.due(how + " wrong", house.trial(0, 1), drop ? 0 : 1);
        }
    }

    private static void spoilt() {
        TastingHouse house = house("triangle", "look 2 below 1 in 3;", 4);
        for (int taster = 0; taster < 4; taster++) {
            Edge.answer(house, true, taster, true);
        }
        house.open();
        Check.due("stops", house.trial(0, 5), 1);
        // Taster 0 has 112, taster 5 (no answer) 122, taster 3 221.
        house.swap(0, house.code(0, 0, 2), house.code(0, 5, 0));
        Check.due("spoilt", house.trial(0, 6), 1);
        Check.due("answers", house.answers(0), 3);
        Check.due("stops later", house.trial(0, 0), 2);
        house.swap(0, house.code(0, 3, 2), house.code(0, 9, 0));
        Check.due("a spoilt one behind the stop is not told", house.trial(0, 6), 1);
        Check.due("but not counted", house.answers(0), 2);
        house.swap(0, house.code(0, 1, 1), house.code(0, 11, 0));
        Check.due("three", house.trial(0, 6), 3);
        Check.due("not stopped", house.trial(0, 5), 0);
        Check.due("one", house.trial(0, 3), 1);
    }

    private static void wrongInputs() {
        TastingHouse house = house("pair", "", 3);
        house.open();
        Check.due("trial what -1", house.trial(0, -1), -1);
        Check.due("trial what 10", house.trial(0, 10), -1);
        Check.due("trial -1", house.trial(-1, 0), -1);
        Check.due("trial 1", house.trial(1, 0), -1);
        Check.due("chance 1", house.chance(1, true), -1);
        Check.due("chance -1", house.chance(-1, false), -1);
        Check.due("answers 1", house.answers(1), -1);
        Check.due("answers -1", house.answers(-1), -1);
        Check.due("inside no code", house.inside(0, 99), -1);
        Check.due("inside 1000", house.inside(0, 1000), -1);
        Check.due("inside 0", house.inside(0, 0), -1);
        Check.due("inside -1", house.inside(0, -1), -1);
        Check.due("inside trial 1", house.inside(1, house.code(0, 0, 0)), -1);
        Check.due("no answers: chance", house.trial(0, 9), 1000000);
        Check.due("no answers: above", house.chance(0, true), 1);
        Check.due("no answers: below", house.chance(0, false), 1);
        Check.due("no answers: least", house.trial(0, 7), 0);
        Check.due("no answers: most", house.trial(0, 8), 1000);
    }

    private static void chances() {
        TastingHouse house = new TastingHouse();
        Check.due("3 of 3", house.guess(true, 3, 3), 1);
        Check.due("2 of 3", house.guess(true, 2, 3), 7);
        Check.due("1 of 3", house.guess(true, 1, 3), 19);
        Check.due("0 of 3", house.guess(true, 0, 3), 27);
        Check.due("2 of 3 in pairs", house.guess(false, 2, 3), 4);
        Check.due("0 of 0", house.guess(false, 0, 0), 1);
        Check.due("all of 30", house.guess(true, 0, 30), 205891132094649L);
        Check.due("1 of 30", house.guess(true, 1, 30), 205891132094649L - (1L << 30));
        Check.due("29 of 30", house.guess(true, 29, 30), 61);
        Check.due("15 of 30 in pairs", house.guess(false, 15, 30), ((1L << 30) + 155117520L) / 2);
        Check.due("k above n", house.guess(true, 4, 3), -1);
        Check.due("k below 0", house.guess(true, -1, 3), -1);
        Check.due("n below 0", house.guess(true, 0, -1), -1);
        Check.due("n above 30", house.guess(true, 0, 31), -1);
        Check.due("extremes", house.guess(true, Integer.MIN_VALUE, Integer.MAX_VALUE), -1);
    }

    private static void greatestChance() {
        TastingHouse house = house("triangle", "", 3);
        for (int taster = 0; taster < 30; taster++) {
            Edge.answer(house, true, taster, taster == 0);
        }
        house.open();
        Check.due("above", house.chance(0, true), 205891132094649L - (1L << 30));
        Check.due("below", house.chance(0, false), 205891132094649L);
        Check.due("in a million", house.trial(0, 9), 999995);
    }

    private static void table() {
        TastingHouse house = new TastingHouse();
        Check.due("0 of 0", house.table(false, 500, 0, 0), 1L << 30);
        Check.due("1 of 2", house.table(true, 0, 1, 2), 357913941L * 2 / 3 + 715827882L / 3);
        Check.due("wrong s", house.table(true, 1001, 0, 0), -1);
        Check.due("wrong s below", house.table(true, -1, 0, 0), -1);
        Check.due("wrong j", house.table(true, 0, 3, 2), -1);
        Check.due("wrong j below", house.table(true, 0, -1, 2), -1);
        Check.due("wrong n", house.table(true, 0, 0, 31), -1);
        Check.due("wrong n below", house.table(true, 0, 0, -1), -1);
        for (int n = 0; n <= 30; n += 3) {
            for (int s = 0; s <= 1000; s += 37) {
                for (int j = 0; j <= n; j += 2) {
                    Check.due("table", house.table(true, s, j, n), Model.tableRow(true, s, n)[j]);
                    Check.due("table", house.table(false, s, j, n), Model.tableRow(false, s, n)[j]);
                }
            }
        }
    }

    private static void needed() {
        TastingHouse house = new TastingHouse();
        Check.due("1 / 16 is below 100 in 1000", house.needed(false, 1000, 100, 0), 4);
        Check.due("1 / 2 is not below 500 in 1000", house.needed(false, 1000, 500, 0), 2);
        Check.due("1 / 2 is below 501 in 1000", house.needed(false, 1000, 501, 0), 1);
        Check.due("k is at most n", house.needed(true, 0, 1, 1000), 7);
        Check.due("30 are not enough", house.needed(true, 0, 50, 50), -1);
        Check.due("s above", house.needed(true, 1001, 50, 50), -1);
        Check.due("a below", house.needed(true, 0, -1, 50), -1);
        Check.due("b above", house.needed(true, 0, 50, 1001), -1);
        Check.due("b below", house.needed(true, 0, 50, -1), -1);
        Model model = new Model();
        for (int s = 0; s <= 1000; s += 125) {
            for (int a = 0; a <= 1000; a += a < 100 ? 10 : 300) {
                for (int b = 0; b <= 1000; b += 100) {
                    Check.due("needed", house.needed(true, s, a, b), model.needed(true, s, a, b));
                    Check.due("needed", house.needed(false, s, a, b), model.needed(false, s, a, b));
                }
            }
        }
    }

    private static void leastAndMost(boolean triangle) {
        for (int n = 0; n <= 30; n++) {
            for (int k = 0; k <= n; k++) {
                TastingHouse house = house(triangle ? "triangle" : "pair", "", 3);
                for (int taster = 0; taster < n; taster++) {
                    Edge.answer(house, triangle, taster, taster < k);
                }
                house.open();
                Check.due("least of " + k + " of " + n, house.trial(0, 7), Model.least(triangle, k, n));
                Check.due("most of " + k + " of " + n, house.trial(0, 8), Model.most(triangle, k, n));
            }
        }
    }
}
