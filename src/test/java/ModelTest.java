import java.util.Random;

/** Random runs of calls, each answer of the class held against the Model's. */
public final class ModelTest {
    private static final int RUNS = 400;
    private static final int[] EDGES = {-2147483648, -2, -1, 0, 1, 2, 3, 29, 30, 31, 100, 999, 1000, 1001, 2147483647};

    private final Random random;
    private final TastingHouse house = new TastingHouse();
    private final Model model = new Model();
    private final int run;
    private int calls;

    private ModelTest(int run) {
        this.run = run;
        random = new Random(run * 7919L);
    }

    public static void main(String[] args) {
        for (int run = 0; run < RUNS; run++) {
            new ModelTest(run).go();
        }
        Check.end();
    }

    private void go() {
        writePlan();
        int openFrom = 50 + random.nextInt(300);
        while (calls < 480) {
            if (calls > openFrom && random.nextInt(10) == 0) {
                same("open", house.open(), model.open());
            }
            if (random.nextInt(300) == 0) {
                writePlan();
                openFrom = calls + random.nextInt(200);
            }
            if (random.nextInt(3) == 0) {
                act();
            } else {
                ask();
            }
        }
    }

    private void same(String call, long got, long want) {
        calls++;
        Check.due("run " + run + " call " + calls + " " + call, got, want);
    }

    private void same(String call, boolean got, boolean want) {
        same(call, got ? 1 : 0, want ? 1 : 0);
    }

    /** Mostly below the bound, at times anything. */
    private int some(int bound) {
        return random.nextInt(25) == 0 ? EDGES[random.nextInt(EDGES.length)] : random.nextInt(bound);
    }

    private void writePlan() {
        String text = new PlanText(random).make();
        for (int from = 0; from < text.length(); from += 20) {
            int[] f = new int[5];
            for (int i = 0; i < 5; i++) {
                f[i] = Check.four(text, from + 4 * i);
            }
            same("feed", house.feed(f[0], f[1], f[2], f[3], f[4]), model.feed(f));
        }
        same("end", house.end(text.length()), model.end(text.length()));
        int seed = random.nextInt(10) == 0 ? random.nextInt() : random.nextInt(Integer.MAX_VALUE);
        same("plan of " + text, house.plan(seed), model.plan(seed));
        for (int what = -1; what < 3; what++) {
            same("fault " + what + " of " + text, house.fault(what), model.fault(what));
        }
    }

    private int someCode(int trial, int taster) {
        int choice = random.nextInt(12);
        return choice == 0 ? 0 : choice == 1 ? some(1000) : model.code(trial, taster, random.nextInt(3));
    }

    private void act() {
        int trial = some(4);
        int taster = some(30);
        switch (random.nextInt(14)) {
            case 0:
            case 1:
                int code = someCode(trial, taster);
                int other = someCode(trial, random.nextInt(3) == 0 ? taster : some(30));
                same("swap", house.swap(trial, code, other), model.swap(trial, code, other));
                break;
            case 2:
            case 3:
                int act = some(Math.max(1, model.all(3) + 1));
                same("annul", house.annul(act), model.annul(act));
                break;
            case 4:
                int at = random.nextInt(3) == 0 ? -1 : some(Math.max(1, model.all(3) + 2));
                same("as", house.as(at), model.as(at));
                break;
            case 5:
            case 6:
            case 7:
            case 8:
                int session = some(10);
                int product = random.nextInt(2) == 0 ? 0 : some(6);
                int score = some(101);
                same("score", house.score(taster, session, product, score), model.score(taster, session, product, score));
                break;
            default:
                int told = someCode(trial, taster);
                same("answer", house.answer(trial, taster, told), model.answer(trial, taster, told));
                break;
        }
    }

    private void ask() {
        int trial = some(4);
        switch (random.nextInt(10)) {
            case 0: same("answers", house.answers(trial), model.answers(trial)); break;
            case 1:
                int code = someCode(trial, some(30));
                same("inside", house.inside(trial, code), model.inside(trial, code));
                break;
            case 2:
            case 3:
                int what = some(10);
                same("trial " + what, house.trial(trial, what), model.trial(trial, what));
                break;
            case 4:
                boolean above = random.nextBoolean();
                same("chance", house.chance(trial, above), model.chance(trial, above));
                break;
            case 5: askScores(); break;
            case 6:
            case 7:
                int claim = some(9);
                same("claim " + claim, house.claim(claim), model.claim(claim));
                break;
            case 8: askAlways(); break;
            default:
                int all = some(8);
                same("all " + all, house.all(all), model.all(all));
                break;
        }
    }

    private void askScores() {
        int product = some(6);
        int session = some(10);
        int taster = some(30);
        same("mean", house.mean(product), model.mean(product));
        same("drift", house.drift(session), model.drift(session));
        same("scored", house.scored(taster, session, product), model.scored(taster, session, product));
    }

    private void askAlways() {
        boolean triangle = random.nextBoolean();
        int n = some(31);
        int k = some(Math.max(1, Math.min(31, n + 1)));
        int s = some(1001);
        same("guess", house.guess(triangle, k, n), model.guess(triangle, k, n));
        same("table", house.table(triangle, s, k, n), model.table(triangle, s, k, n));
        same("code", house.code(k, n, s % 4), model.code(k, n, s % 4));
        if (random.nextInt(4) == 0) {
            int a = some(1001);
            int b = some(1001);
            same("needed", house.needed(triangle, s, a, b), model.needed(triangle, s, a, b));
        }
        if (random.nextInt(8) == 0) {
            int t = 2 + random.nextInt(4);
            int rows = random.nextInt(8) == 0 ? 30 : some(8);
            same("orders", house.orders(t, rows), model.orders(t, rows));
        }
        int row = random.nextInt(4) == 0 ? random.nextInt() : new int[] {0x10, 0x01, 0x201, 0x012, 0x2301, 0x43201, 0x01234}[random.nextInt(7)];
        same("serves", house.serves(row), model.serves(row));
        int i = some(30);
        int place = some(5);
        same("served", house.served(i, place), model.served(i, place));
    }
}
