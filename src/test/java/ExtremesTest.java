/** Every call with every mix of far and near arguments, in each state: none fails, and each answers as the Model does. */
public final class ExtremesTest {
    private static final int[] ARGUMENTS = {Integer.MIN_VALUE, -1000000000, -2, -1, 0, 1, 2, 5, 9, 10, 29, 30, 31, 100, 250, 999,
        1000, 1001, 65536, 0x210, Integer.MAX_VALUE};
    private static final String TEXT = "product a;product b;triangle a against b;look 2 below 1 in 3;pair b against a;"
        + "ties half;scale own;reference b;claim c when least 0<most 1 or mean a>drift 1;";

    private TastingHouse house;
    private Model model;

    public static void main(String[] args) {
        for (int state = 0; state < 4; state++) {
            new ExtremesTest().go(state);
        }
        Check.end();
    }

    /** 0: new; 1: a plan; 2: a plan and acts; 3: those, opened and told at an act before the last. */
    private void begin(int state) {
        house = new TastingHouse();
        model = new Model();
        if (state == 0) {
            return;
        }
        for (int from = 0; from < TEXT.length(); from += 20) {
            int[] f = new int[5];
            for (int i = 0; i < 5; i++) {
                f[i] = Check.four(TEXT, from + 4 * i);
            }
            Check.due("feed", house.feed(f[0], f[1], f[2], f[3], f[4]), model.feed(f));
        }
        Check.due("plan", house.plan(9), model.plan(9));
        for (int taster = 0; taster < 20 && state > 1; taster++) {
            int code = model.code(taster % 2, taster, taster % 3);
            Check.due("answer", house.answer(taster % 2, taster, code), model.answer(taster % 2, taster, code));
            Check.due("score", house.score(taster, taster % 4, taster % 2, taster), model.score(taster, taster % 4, taster % 2, taster));
        }
        if (state == 3) {
            Check.due("open", house.open(), model.open());
            Check.due("as", house.as(30), model.as(30));
            Check.due("orders", house.orders(3, 2), model.orders(3, 2));
        }
    }

    /** Each mix begins anew: nothing is promised of an object behind its 512th call. */
    private void go(int state) {
        for (int a : ARGUMENTS) {
            begin(state);
            one(a);
            tape(a);
            for (int b : ARGUMENTS) {
                begin(state);
                two(a, b);
                for (int c : ARGUMENTS) {
                    three(a, b, c);
                }
                acts(a, b);
            }
        }
    }

    private void one(int a) {
        Check.due("fault " + a, house.fault(a), model.fault(a));
        Check.due("answers " + a, house.answers(a), model.answers(a));
        Check.due("chance " + a, house.chance(a, true), model.chance(a, true));
        Check.due("chance " + a, house.chance(a, false), model.chance(a, false));
        Check.due("mean " + a, house.mean(a), model.mean(a));
        Check.due("drift " + a, house.drift(a), model.drift(a));
        Check.due("claim " + a, house.claim(a), model.claim(a));
        Check.due("all " + a, house.all(a), model.all(a));
    }

    private void two(int a, int b) {
        Check.due("inside " + a + " " + b, house.inside(a, b), model.inside(a, b));
        Check.due("trial " + a + " " + b, house.trial(a, b), model.trial(a, b));
        Check.due("guess " + a + " " + b, house.guess(true, a, b), model.guess(true, a, b));
        Check.due("guess " + a + " " + b, house.guess(false, a, b), model.guess(false, a, b));
        Check.due("served " + a + " " + b, house.served(a, b), model.served(a, b));
        Check.due("serves " + a, house.serves(a ^ b), model.serves(a ^ b));
        if (Math.abs((long) a) <= 31 && Math.abs((long) b) <= 10) {
            Check.due("orders " + b + " " + a, house.orders(b, a), model.orders(b, a));
        }
    }

    private void three(int a, int b, int c) {
        Check.due("code " + a + " " + b + " " + c, house.code(a, b, c), model.code(a, b, c));
        Check.due("table " + a + " " + b + " " + c, house.table(true, a, b, c), model.table(true, a, b, c));
        Check.due("table " + a + " " + b + " " + c, house.table(false, a, b, c), model.table(false, a, b, c));
        Check.due("scored " + a + " " + b + " " + c, house.scored(a, b, c), model.scored(a, b, c));
        if (Math.min(a, Math.min(b, c)) < 0 || Math.max(a, Math.max(b, c)) > 1000) {
            Check.due("needed " + a + " " + b + " " + c, house.needed(a == b, a, b, c), -1);
        }
    }

    private void acts(int a, int b) {
        for (int c : ARGUMENTS) {
            Check.due("answer " + a + " " + b + " " + c, house.answer(a, b, c), model.answer(a, b, c));
            Check.due("swap " + a + " " + b + " " + c, house.swap(a, b, c), model.swap(a, b, c));
            Check.due("score " + a + " " + b + " " + c, house.score(a, b, c, a ^ b), model.score(a, b, c, a ^ b));
        }
        Check.due("annul " + (a ^ b), house.annul(a ^ b), model.annul(a ^ b));
        Check.due("as " + (a ^ b), house.as(a ^ b), model.as(a ^ b));
        Check.due("mean behind it", house.mean(0), model.mean(0));
    }

    private void tape(int a) {
        Check.due("feed " + a, house.feed(a, -a, a >> 3, ~a, 0), model.feed(a, -a, a >> 3, ~a, 0));
        Check.due("end " + a, house.end(a), model.end(a));
        Check.due("feed " + a, house.feed(a, a, a, a, a), model.feed(a, a, a, a, a));
        Check.due("plan " + a, house.plan(a), model.plan(a));
        Check.due("fault", house.fault(0), model.fault(0));
        Check.due("place", house.fault(1), model.fault(1));
        Check.due("open", house.open(), model.open());
    }
}
