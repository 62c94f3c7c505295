import java.lang.management.ManagementFactory;

/** The dearest calls, 512 of each kind at most: none makes objects, and each ends soon. */
final class CostTest {
    private static final String TEXT = "baby 1 2 3 4; aunt a 1 2 3 10; aunt b 4 5 6 20; aunt c 7 8 9 30; aunt d 1 5 9 40 sits;"
        + "aunt e 9 5 1 50; aunt f 2 2 2 60; hungers=if held<3 then 2 else rock-3; tires=(hunger+show*2)/9; wonders=beard-4;"
        + "winds=if hunger<40 then 1 else 0; cries=(hunger-rock*4)*(2-seen)/3+wind/(1+show); spits=wind/2; ";

    private CostTest() {
    }

    public static void main(String[] args) {
        Check check = new Check("CostTest");
        com.sun.management.ThreadMXBean memory = (com.sun.management.ThreadMXBean) ManagementFactory.getThreadMXBean();
        long thread = Thread.currentThread().getId();
        for (String sleeps : new String[] {"sleeps=0;", "sleeps=1;"}) {
            BabyRound x = Check.of(TEXT + sleeps);
            calls(x, 0);
            long ahead = memory.getThreadAllocatedBytes(thread);
            long began = System.nanoTime();
            long sum = 0;
            for (int i = 0; i < 20; i++) {
                sum += calls(x, i);
            }
            long made = memory.getThreadAllocatedBytes(thread) - ahead;
            check.due(sleeps + " bytes made are few: " + made, made < 100000, true);
            System.out.println("CostTest: " + sleeps + " " + (System.nanoTime() - began) / 1000000 + " ms, sum " + sum);
        }
        long ahead = memory.getThreadAllocatedBytes(thread);
        new BabyRound();
        long made = memory.getThreadAllocatedBytes(thread) - ahead;
        check.due("bytes of a new object are few: " + made, made < 100000, true);
        System.out.println("CostTest: a new object has " + made + " bytes");
        check.end();
    }

    private static long calls(BabyRound x, int i) {
        long sum = x.order(10) + x.orderAt(10, i % 6) + x.sitters(10) + x.luck(i % 6, 10) + x.fairest(10, 0);
        sum += x.rests(10, -1) + x.leftOut(10, 0) + x.bestRound(120, 0) + x.silk(120, 20) + x.fed(0, -1) + x.beat(1, 120, 0);
        sum += x.inSight(60, 0) + x.feedAt(60, 0) + x.wants(120, 0) + x.next(120, 0) + x.crying(240) + x.sleeps() + x.merry();
        x.cloth(true);
        x.mother(true);
        x.nurse();
        x.hand(i % 6);
        x.undo();
        x.hold(0);
        x.restore(0);
        x.tell(1, 1);
        Check.put(x, "");
        return sum;
    }
}
