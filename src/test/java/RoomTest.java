import java.lang.management.ManagementFactory;

/** All calls of a run live in one room: after its constructor an object makes nothing. */
public final class RoomTest {
    private static final String PLAN = "product a;product b;triangle a against b;look 9 below 1 in 9;reference b;"
        + "pair a against b;scale own;claim c when least 0<most 1 and [mean a>drift 3 or not stopped 1];";

    public static void main(String[] args) {
        com.sun.management.ThreadMXBean bean = (com.sun.management.ThreadMXBean) ManagementFactory.getThreadMXBean();
        long thread = Thread.currentThread().getId();
        go(new TastingHouse());
        TastingHouse house = new TastingHouse();
        long before = bean.getThreadAllocatedBytes(thread);
        int sum = go(house);
        long made = bean.getThreadAllocatedBytes(thread) - before;
        System.out.println(made + " bytes made by a run of calls (sum " + sum + ")");
        Check.due("calls make next to nothing", made < 4096, true);
        before = bean.getThreadAllocatedBytes(thread);
        house = new TastingHouse();
        made = bean.getThreadAllocatedBytes(thread) - before;
        System.out.println(made + " bytes made by the constructor");
        Check.due("the constructor makes little", made < 65536, true);
        Check.end();
    }

    private static int go(TastingHouse house) {
        int sum = 0;
        for (int from = 0; from < PLAN.length(); from += 20) {
            sum += house.feed(Check.four(PLAN, from), Check.four(PLAN, from + 4), Check.four(PLAN, from + 8),
                Check.four(PLAN, from + 12), Check.four(PLAN, from + 16));
        }
        sum += house.plan(5);
        for (int i = 0; i < 30; i++) {
            sum += house.answer(0, i, house.code(0, i, i % 3)) + house.answer(1, i, house.code(1, i, i % 2));
            sum += house.score(i, i % 10, i % 2, i);
        }
        house.open();
        for (int i = 0; i < 20; i++) {
            sum += house.claim(0) + house.trial(0, i % 10) + house.mean(0) + house.drift(i) + house.answers(1);
            sum += house.orders(2 + i % 4, 30) + house.needed(true, 300, 50, 50) + house.scored(i, i, i);
            sum += (int) house.chance(0, true) + (int) house.table(true, 1, 2, 3) + house.inside(0, 100 + i);
        }
        return sum;
    }
}
