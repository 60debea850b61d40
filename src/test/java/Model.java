import java.math.BigInteger;
import java.util.ArrayList;
import java.util.HashMap;
import java.util.List;
import java.util.Map;
import java.util.TreeMap;

/**
 * The document once more, in its plainest form and with all of Java's library, written apart from the class:
 * the random runs hold the two against each other.
 */
final class Model {
    private final StringBuilder tape = new StringBuilder();
    private ModelPlan plan = new ModelPlan();
    private boolean planned;
    private boolean open;
    private int as = -1;
    private int fault;
    private int place = -1;
    private int seed;
    private final List<int[]> acts = new ArrayList<>();
    private final Map<Integer, Integer> voidBy = new HashMap<>();
    private final List<List<Integer>> rows = new ArrayList<>();
    private int things;

    private static final int ANSWER = 0;
    private static final int SCORE = 1;
    private static final int SWAP = 2;
    private static final int VOID = 3;

    int feed(int... numbers) {
        if (tape.length() + 20 > 700) {
            return -1;
        }
        for (int number : numbers) {
            for (int shift = 24; shift >= 0; shift -= 8) {
                tape.append((char) (number >>> shift & 255));
            }
        }
        return tape.length();
    }

    boolean end(int n) {
        if (n < 0 || n > tape.length()) {
            return false;
        }
        tape.setLength(n);
        return true;
    }

    int plan(int newSeed) {
        if (newSeed < 0) {
            return -2;
        }
        String text = tape.toString();
        tape.setLength(0);
        try {
            ModelPlan next = new ModelPlan();
            next.read(text);
            plan = next;
        } catch (ModelPlan.Fault found) {
            fault = found.kind;
            place = found.place;
            return -1;
        }
        fault = 0;
        place = -1;
        seed = newSeed;
        planned = true;
        open = false;
        as = -1;
        acts.clear();
        voidBy.clear();
        return plan.statements;
    }

    int fault(int what) {
        return what == 0 ? fault : what == 1 ? place : -1;
    }

    private boolean hasTrial(int trial) {
        return trial >= 0 && trial < plan.trials.size();
    }

    private int places(int trial) {
        return plan.trials.get(trial).triangle ? 3 : 2;
    }

    private List<Integer> codes(int trial) {
        List<Integer> codes = new ArrayList<>();
        BigInteger x = BigInteger.valueOf(seed);
        for (int i = 0; i < 30 * places(trial); i++) {
            x = x.multiply(BigInteger.valueOf(1103515245)).add(BigInteger.valueOf(12345)).mod(BigInteger.ONE.shiftLeft(31));
            int code = 100 + x.shiftRight(8).mod(BigInteger.valueOf(900)).intValue();
            while (codes.contains(code)) {
                code = code == 999 ? 100 : code + 1;
            }
            codes.add(code);
        }
        return codes;
    }

    int code(int trial, int taster, int at) {
        if (!hasTrial(trial) || taster < 0 || taster > 29 || at < 0 || at >= places(trial)) {
            return -1;
        }
        return codes(trial).get(taster * places(trial) + at);
    }

    private int act(int... what) {
        if (acts.size() >= 250) {
            return -1;
        }
        acts.add(what);
        return acts.size();
    }

    int answer(int trial, int taster, int code) {
        if (open || !hasTrial(trial) || taster < 0 || taster > 29) {
            return -1;
        }
        boolean theirs = code == 0 && places(trial) == 2;
        for (int at = 0; at < places(trial); at++) {
            theirs |= code(trial, taster, at) == code;
        }
        return theirs ? act(ANSWER, trial, taster, code) : -1;
    }

    int score(int taster, int session, int product, int score) {
        if (open || taster < 0 || taster > 29 || session < 0 || session > 9 || product < 0
            || product >= plan.products.size() || score < 0 || score > 100) {
            return -1;
        }
        return act(SCORE, taster, session, product, score);
    }

    int swap(int trial, int code, int other) {
        if (!hasTrial(trial) || code == other || !codes(trial).contains(code) || !codes(trial).contains(other)) {
            return -1;
        }
        return act(SWAP, trial, code, other);
    }

    int annul(int act) {
        if (act < 1 || act > acts.size() || voidBy.containsKey(act) || acts.get(act - 1)[0] == VOID) {
            return -1;
        }
        int by = act(VOID, act);
        if (by > 0) {
            voidBy.put(act, by);
        }
        return by;
    }

    boolean as(int act) {
        if (act < -1 || act > acts.size()) {
            return false;
        }
        as = act;
        return true;
    }

    boolean open() {
        if (open || !planned) {
            return false;
        }
        open = true;
        return true;
    }

    private int toldAt() {
        return as < 0 ? acts.size() : as;
    }

    private List<int[]> known(int kind) {
        List<int[]> list = new ArrayList<>();
        for (int act = 1; act <= toldAt(); act++) {
            Integer by = voidBy.get(act);
            if (acts.get(act - 1)[0] == kind && (by == null || by > toldAt())) {
                list.add(acts.get(act - 1));
            }
        }
        return list;
    }

    private Map<Integer, Integer> contents(int trial) {
        String[] orders = places(trial) == 3 ? new String[] {"112", "121", "211", "221", "212", "122"}
            : new String[] {"12", "21"};
        Map<Integer, Integer> contents = new HashMap<>();
        List<Integer> codes = codes(trial);
        for (int taster = 0; taster < 30; taster++) {
            for (int at = 0; at < places(trial); at++) {
                contents.put(codes.get(taster * places(trial) + at), orders[taster % orders.length].charAt(at) - '0');
            }
        }
        for (int[] swap : known(SWAP)) {
            if (swap[1] == trial) {
                int held = contents.get(swap[2]);
                contents.put(swap[2], contents.get(swap[3]));
                contents.put(swap[3], held);
            }
        }
        return contents;
    }

    /** right, wrong, tied, N, K, look, spoilt. */
    private int[] tally(int trial, boolean looking) {
        int[] tally = new int[7];
        List<Integer> codes = codes(trial);
        Map<Integer, Integer> contents = contents(trial);
        List<Integer> heard = new ArrayList<>();
        for (int[] answer : known(ANSWER)) {
            if (answer[1] != trial || heard.contains(answer[2])) {
                continue;
            }
            heard.add(answer[2]);
            int ones = 0;
            for (int at = 0; at < places(trial); at++) {
                ones += contents.get(codes.get(answer[2] * places(trial) + at)) == 1 ? 1 : 0;
            }
            int n = tally[3];
            if (ones == 0 || ones == places(trial)) {
                tally[6]++;
            } else if (answer[3] == 0) {
                tally[2]++;
            } else {
                int sought = places(trial) == 2 || ones == 1 ? 1 : 2;
                tally[contents.get(answer[3]) == sought ? 0 : 1]++;
            }
            tally[3] = tally[0] + tally[1] + (plan.ties.equals("drop") ? 0 : tally[2]);
            tally[4] = tally[0] + (plan.ties.equals("half") ? tally[2] / 2 : 0);
            List<int[]> looks = plan.trials.get(trial).looks;
            for (int i = 0; looking && i < looks.size() && tally[3] > n; i++) {
                BigInteger left = above(trial, tally).multiply(BigInteger.valueOf(looks.get(i)[2]));
                BigInteger right = below(trial, tally).multiply(BigInteger.valueOf(looks.get(i)[1]));
                if (looks.get(i)[0] == tally[3] && left.compareTo(right) < 0) {
                    tally[5] = i + 1;
                    return tally;
                }
            }
        }
        return tally;
    }

    private BigInteger above(int trial, int[] tally) {
        return guesses(places(trial) == 3, tally[4], tally[3]);
    }

    private BigInteger below(int trial, int[] tally) {
        return BigInteger.valueOf(places(trial)).pow(tally[3]);
    }

    /** Row by row: one more taster is right in one way, wrong in two (of three) or one (of two). */
    private static BigInteger guesses(boolean triangle, int k, int n) {
        BigInteger[] ways = new BigInteger[n + 2];
        java.util.Arrays.fill(ways, BigInteger.ZERO);
        ways[0] = BigInteger.ONE;
        for (int i = 0; i < n; i++) {
            for (int j = i + 1; j >= 0; j--) {
                BigInteger wrong = triangle ? ways[j].shiftLeft(1) : ways[j];
                ways[j] = j == 0 ? wrong : wrong.add(ways[j - 1]);
            }
        }
        BigInteger sum = BigInteger.ZERO;
        for (int j = k; j <= n; j++) {
            sum = sum.add(ways[j]);
        }
        return sum;
    }

    int answers(int trial) {
        return hasTrial(trial) ? tally(trial, false)[3] : -1;
    }

    int inside(int trial, int code) {
        return open && hasTrial(trial) ? contents(trial).getOrDefault(code, -1) : -1;
    }

    int trial(int trial, int what) {
        return open && hasTrial(trial) ? measure(trial, what) : -1;
    }

    int measure(int trial, int what) {
        int[] tally = tally(trial, true);
        boolean triangle = places(trial) == 3;
        switch (what) {
            case 7: return least(triangle, tally[4], tally[3]);
            case 8: return most(triangle, tally[4], tally[3]);
            case 9:
                BigInteger[] parts = above(trial, tally).multiply(BigInteger.valueOf(1000000))
                    .divideAndRemainder(below(trial, tally));
                return parts[0].intValue() + parts[1].signum();
            default: return what < 0 || what > 9 ? -1 : tally[what];
        }
    }

    long chance(int trial, boolean above) {
        if (!open || !hasTrial(trial)) {
            return -1;
        }
        int[] tally = tally(trial, true);
        return (above ? above(trial, tally) : below(trial, tally)).longValueExact();
    }

    long guess(boolean triangle, int k, int n) {
        return n < 0 || n > 30 || k < 0 || k > n ? -1 : guesses(triangle, k, n).longValueExact();
    }

    static long[] tableRow(boolean triangle, int s, int n) {
        long r = triangle ? 1000 + 2L * s : 1000 + s;
        long all = triangle ? 3000 : 2000;
        long[] row = {1L << 30};
        for (int i = 1; i <= n; i++) {
            long[] next = new long[i + 1];
            for (int j = 0; j <= i; j++) {
                next[j] = (j < i ? row[j] * (all - r) / all : 0) + (j > 0 ? row[j - 1] * r / all : 0);
            }
            row = next;
        }
        return row;
    }

    private static long part(long[] row, int from, int to) {
        long sum = 0;
        for (int j = from; j <= to; j++) {
            sum += row[j];
        }
        return sum;
    }

    private static final Map<String, Integer> FOUND = new HashMap<>();

    static int least(boolean triangle, int k, int n) {
        return FOUND.computeIfAbsent("least" + triangle + k + "," + n, key -> {
            for (int s = 0; s <= 1000; s++) {
                if (part(tableRow(triangle, s, n), k, n) >= 26843545) {
                    return s;
                }
            }
            return 1000;
        });
    }

    static int most(boolean triangle, int k, int n) {
        return FOUND.computeIfAbsent("most" + triangle + k + "," + n, key -> {
            for (int s = 1000; s >= 0; s--) {
                if (part(tableRow(triangle, s, n), 0, k) >= 26843545) {
                    return s;
                }
            }
            return 0;
        });
    }

    long table(boolean triangle, int s, int j, int n) {
        return s < 0 || s > 1000 || n < 0 || n > 30 || j < 0 || j > n ? -1 : tableRow(triangle, s, n)[j];
    }

    int needed(boolean triangle, int s, int a, int b) {
        if (Math.min(s, Math.min(a, b)) < 0 || Math.max(s, Math.max(a, b)) > 1000) {
            return -1;
        }
        for (int n = 1; n <= 30; n++) {
            long[] row = tableRow(triangle, s, n);
            for (int k = 0; k <= n; k++) {
                BigInteger left = guesses(triangle, k, n).multiply(BigInteger.valueOf(1000));
                BigInteger right = BigInteger.valueOf(triangle ? 3 : 2).pow(n).multiply(BigInteger.valueOf(a));
                if (left.compareTo(right) < 0 && part(row, k, n) >= (1L << 30) * (1000 - b) / 1000) {
                    return n;
                }
            }
        }
        return -1;
    }

    /** Taster, session, product -> score as the scale has it. */
    private Map<List<Integer>, Integer> scores() {
        Map<List<Integer>, Integer> raw = new HashMap<>();
        Map<Integer, List<Integer>> byTaster = new HashMap<>();
        for (int[] score : known(SCORE)) {
            if (raw.putIfAbsent(List.of(score[1], score[2], score[3]), score[4]) == null) {
                byTaster.computeIfAbsent(score[1], taster -> new ArrayList<>()).add(score[4]);
            }
        }
        Map<List<Integer>, Integer> scaled = new HashMap<>();
        raw.forEach((key, score) -> {
            int least = byTaster.get(key.get(0)).stream().mapToInt(v -> v).min().getAsInt();
            int greatest = byTaster.get(key.get(0)).stream().mapToInt(v -> v).max().getAsInt();
            int own = least == greatest ? 500 : 1000 * (score - least) / (greatest - least);
            scaled.put(key, plan.own ? own : 10 * score);
        });
        return scaled;
    }

    private int driftOf(int session) {
        TreeMap<Integer, List<Integer>> bySession = new TreeMap<>();
        scores().forEach((key, score) -> {
            if (key.get(2) == plan.reference) {
                bySession.computeIfAbsent(key.get(1), s -> new ArrayList<>()).add(score);
            }
        });
        if (!bySession.containsKey(session)) {
            return 0;
        }
        return floorMean(bySession.get(session)) - floorMean(bySession.firstEntry().getValue());
    }

    private static int floorMean(List<Integer> list) {
        long sum = list.stream().mapToLong(v -> v).sum();
        return (int) Math.floor((double) sum / list.size());
    }

    int meanOf(int product) {
        List<Integer> list = new ArrayList<>();
        scores().forEach((key, score) -> {
            if (key.get(2) == product) {
                list.add(score - driftOf(key.get(1)));
            }
        });
        return list.isEmpty() ? -1000000 : floorMean(list);
    }

    int mean(int product) {
        return open && product >= 0 && product < plan.products.size() ? meanOf(product) : -1;
    }

    int drift(int session) {
        return open && session >= 0 && session < 10 ? driftOf(session) : -1000000000;
    }

    int driftInTest(int session) {
        return driftOf(session);
    }

    int scored(int taster, int session, int product) {
        return open ? scores().getOrDefault(List.of(taster, session, product), -1) : -1;
    }

    int claim(int k) {
        return open && k >= 0 && k < plan.tests.size() ? (plan.tests.get(k).holds(this) ? 1 : 0) : -1;
    }

    private static void permute(List<Integer> begun, int t, List<List<Integer>> into) {
        if (begun.size() == t) {
            into.add(new ArrayList<>(begun));
        }
        for (int thing = 0; thing < t; thing++) {
            if (!begun.contains(thing)) {
                begun.add(thing);
                permute(begun, t, into);
                begun.remove(begun.size() - 1);
            }
        }
    }

    private int uneven() {
        int[][] stood = new int[things][things];
        int[][] ahead = new int[things][things];
        for (List<Integer> row : rows) {
            for (int at = 0; at < things; at++) {
                stood[row.get(at)][at]++;
                if (at > 0) {
                    ahead[row.get(at - 1)][row.get(at)]++;
                }
            }
        }
        int sum = 0;
        for (int i = 0; i < things; i++) {
            for (int j = 0; j < things; j++) {
                sum += (int) Math.pow(stood[i][j] * things - rows.size(), 2);
                sum += i == j ? 0 : (int) Math.pow(ahead[i][j] * things - rows.size(), 2);
            }
        }
        return sum;
    }

    int orders(int t, int n) {
        if (t < 2 || t > 5 || n < 1 || n > 30) {
            return -1;
        }
        things = t;
        rows.clear();
        List<List<Integer>> all = new ArrayList<>();
        permute(new ArrayList<>(), t, all);
        for (int i = 0; i < n; i++) {
            List<Integer> best = null;
            int least = Integer.MAX_VALUE;
            for (List<Integer> row : all) {
                rows.add(row);
                int now = uneven();
                rows.remove(rows.size() - 1);
                if (now < least) {
                    least = now;
                    best = row;
                }
            }
            rows.add(best);
        }
        return uneven();
    }

    int served(int i, int at) {
        return i < 0 || i >= rows.size() || at < 0 || at >= things ? -1 : rows.get(i).get(at);
    }

    int serves(int row) {
        List<Integer> list = new ArrayList<>();
        long rest = row & 0xffffffffL;
        for (int i = 0; i < things; i++) {
            int thing = (int) (rest % 16);
            rest /= 16;
            if (thing >= things || list.contains(thing)) {
                return -1;
            }
            list.add(thing);
        }
        if (rest != 0 || rows.isEmpty() || rows.size() >= 30) {
            return -1;
        }
        rows.add(list);
        return uneven();
    }

    int all(int what) {
        switch (what) {
            case 0: return plan.products.size();
            case 1: return plan.trials.size();
            case 2: return plan.tests.size();
            case 3: return acts.size();
            case 4: return toldAt();
            case 5: return open ? 1 : 0;
            case 6: return plan.trials.stream().mapToInt(trial -> trial.looks.size()).sum();
            default: return -1;
        }
    }
}
