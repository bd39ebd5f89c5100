import java.lang.management.ManagementFactory;

/** All calls of a run live in one room: an object makes its rows at first, and calls make nothing more. */
public final class RoomTest {
    private static final com.sun.management.ThreadMXBean THREADS =
            (com.sun.management.ThreadMXBean) ManagementFactory.getThreadMXBean();

    public static void main(String[] args) {
        used();
        PassStones[] made = new PassStones[100];
        long before = used();
        for (int i = 0; i < made.length; i++) made[i] = new PassStones();
        long each = (used() - before) / made.length;
        Due.holds("an object takes " + each + " bytes", each < 12000);

        PassStones x = made[0];
        x.image(0);
        x.image(1);
        before = used();
        long sum = 0;
        for (int i = 0; i < 16; i++) sum += round(x);
        long more = used() - before;
        Due.holds("calls make " + more + " bytes more", more < 512);
        Due.holds("calls answer", sum != 0);
        Due.end();
    }

    private static long used() {
        return THREADS.getThreadAllocatedBytes(Thread.currentThread().getId());
    }

    private static long round(PassStones x) {
        long sum = x.wall(12) + x.coach(4) + x.passer(9, 5, 1, 20) + x.passer(9, 3, 1, 2) + x.beast(3, 3) + x.odds(0, 2, 3);
        sum += x.type(0x77616c6c20353b20L, 8) + x.read() + x.passer(9, 2, 1, 20) + x.beast(3, 3);
        sum += x.check(1, 0, 30) + x.check(5, 0, 30) + x.check(9, 0, 30) + x.look(9, 6);
        sum += x.height(9) + x.does(0) + x.over(0) + x.through() + x.behind(3, 1) + x.may(9, 4, 0) + x.advice(0, 9, 4);
        sum += x.hired(-1) + x.hired(0) + x.turns(-1) + x.treaty() + x.done() + x.sure(0) + x.chance(5) + x.free(0, 1);
        sum += x.part(0) + x.image(0) + x.from(1) + x.from(0) + x.status(0) + x.count(0) + x.digest() + x.undo();
        return sum + x.forget() + x.clear();
    }
}
