/**
 * Each number of each call at the last value that is taken and at the first that is refused, on both sides, with
 * nothing told, with something, and with all that there may be: there BAD still goes ahead of FULL.
 */
public final class LimitsTest {
    private static Twins.Story story;
    private static String told;

    interface Argument {
        long of(PassStones x, int v);
    }

    public static void main(String[] args) {
        nothingTold();
        somethingTold();
        allTold();
        Due.end();
    }

    private static void begin(String name, Twins.Story with) {
        told = name;
        story = with;
    }

    /** Every value from one to the other is taken, what lies beyond is BAD. */
    private static void range(String call, int least, int most, Argument argument) {
        range(call, least, most, -2, argument);
    }

    private static void range(String call, int least, int most, long bad, Argument argument) {
        for (int v = least; v <= most; v++) {
            PassStones one = Twins.told(story);
            argument.of(one, v);
            Twins.counted(name(call, v), one, Twins.told(story), Twins.NOT_COUNTED);
        }
        beyond(call, least, most, bad, argument);
    }

    /** Every value from one to the other is refused as FULL, but what lies beyond is still BAD. */
    private static void fullRange(String call, int least, int most, Argument argument) {
        for (int v = least; v <= most; v++) {
            int at = v;
            Twins.refused(name(call, v), story, x -> argument.of(x, at), -4, Twins.FULL);
        }
        beyond(call, least, most, -2, argument);
    }

    /** No value at all is taken. */
    private static void never(String call, long bad, Argument argument) {
        beyond(call, 0, -1, bad, argument);
    }

    private static void beyond(String call, int least, int most, long bad, Argument argument) {
        for (int v : new int[] {least - 1, most + 1, Integer.MIN_VALUE, Integer.MAX_VALUE}) {
            Twins.refused(name(call, v), story, x -> argument.of(x, v), bad, Twins.BAD);
        }
    }

    private static String name(String call, int v) {
        return told + ": " + call + " with " + v;
    }

    private static void nothingTold() {
        begin("nothing told", Stories::nothing);
        same();
        adders(0, 0, 0);
        never("odds(_, 3, 3)", -2, (x, v) -> x.odds(v, 3, 3));
        never("does(_)", -10, PassStones::does);
        never("over(_)", -2, PassStones::over);
        never("advice(_, 99, 5)", -10, (x, v) -> x.advice(v, 99, 5));
        range("hired(_)", -1, -1, -100, PassStones::hired);
        range("turns(_)", -1, -1, -10, PassStones::turns);
        never("sure(_)", -10, PassStones::sure);
        range("free(_, 0)", -1, -1, (x, v) -> x.free(v, 0));
        range("free(-1, _)", 0, 1, (x, v) -> x.free(-1, v));
        range("type(7, _)", 1, 8, (x, v) -> x.type(7, v));
        beyond("from(_), none kept", 0, 1, -2, PassStones::from);
        for (int i = 0; i <= 1; i++) {
            int kept = i;
            Twins.refused("from(" + i + "), none kept", story, x -> x.from(kept), -3, Twins.NO);
        }
        Twins.refused("undo(), nobody", story, PassStones::undo, -3, Twins.NO);
    }

    private static void somethingTold() {
        begin("something told", Stories::some);
        same();
        adders(Stories.LAST_PASSER, Stories.LAST_CHECK + 1, Stories.LAST_LOOK);
        rows(Stories.SOME_PASSERS, Stories.SOME_BEASTS, Stories.SOME_CHECKS);
        range("sure(_)", 0, Stories.SOME_PASSERS - 1, -10, PassStones::sure);
        range("advice(0, _, 5)", 10, 99, -10, (x, v) -> x.advice(0, v, 5));
        range("advice(3, _, 5)", Stories.LAST_PASSER, 99, -10, (x, v) -> x.advice(3, v, 5));
        range("type(7, _)", 1, 8, (x, v) -> x.type(7, v));
        range("from(_)", 0, 1, PassStones::from);
    }

    private static void allTold() {
        begin("all told", Stories::all);
        same();
        int last = Stories.ALL_LAST;
        fullRange("passer(_, 0, 0, 0)", last, 99, (x, v) -> x.passer(v, 0, 0, 0));
        fullRange("passer(99, _, 0, 0)", 0, 5, (x, v) -> x.passer(99, v, 0, 0));
        fullRange("passer(99, 0, _, 0)", 0, 1, (x, v) -> x.passer(99, 0, v, 0));
        fullRange("passer(99, 0, 0, _)", 0, 30, (x, v) -> x.passer(99, 0, 0, v));
        fullRange("beast(_, 5)", 0, 99, (x, v) -> x.beast(v, 5));
        fullRange("beast(50, _)", 0, 30, (x, v) -> x.beast(50, v));
        fullRange("check(_, 5, 6)", last + 1, 99, (x, v) -> x.check(v, 5, 6));
        fullRange("check(99, _, 12)", 0, 12, (x, v) -> x.check(99, v, 12));
        fullRange("check(99, 12, _)", 12, 30, (x, v) -> x.check(99, 12, v));
        fullRange("look(_, 5)", last, 99, (x, v) -> x.look(v, 5));
        fullRange("look(99, _)", 0, 30, (x, v) -> x.look(99, v));
        fullRange("type(7, _)", 1, 8, (x, v) -> x.type(7, v));
        rows(12, 4, 5);
        beyond("sure(_), no row fits", 0, 11, -10, PassStones::sure);
        for (int i = 0; i < 12; i++) {
            int passer = i;
            Twins.refused(name("sure(_), no row fits", i), story, x -> x.sure(passer), -20, Twins.NO);
        }
        range("advice(11, _, 5)", last, 99, -10, (x, v) -> x.advice(11, v, 5));
        range("from(_)", 0, 1, PassStones::from);
    }

    /** What is bounded alike, whatever was told. */
    private static void same() {
        range("wall(_)", 0, 30, PassStones::wall);
        range("coach(_)", 0, 30, PassStones::coach);
        range("height(_)", 0, 99, PassStones::height);
        range("behind(_, 0)", 0, 30, (x, v) -> x.behind(v, 0));
        range("behind(5, _)", 0, 1, (x, v) -> x.behind(5, v));
        range("may(_, 5, 0)", 0, 99, (x, v) -> x.may(v, 5, 0));
        range("may(50, _, 1)", 0, 30, (x, v) -> x.may(50, v, 1));
        range("may(50, 5, _)", 0, 1, (x, v) -> x.may(50, 5, v));
        range("chance(_)", 0, 30, PassStones::chance);
        range("part(_)", 0, 1, PassStones::part);
        range("image(_)", 0, 1, PassStones::image);
        range("status(_)", 0, 2, -1, PassStones::status);
        range("count(_)", 0, 4, PassStones::count);
    }

    private static void adders(int passerFrom, int checkFrom, int lookFrom) {
        range("passer(_, 0, 0, 0)", passerFrom, 99, (x, v) -> x.passer(v, 0, 0, 0));
        range("passer(99, _, 0, 0)", 0, 5, (x, v) -> x.passer(99, v, 0, 0));
        range("passer(99, 0, _, 0)", 0, 1, (x, v) -> x.passer(99, 0, v, 0));
        range("passer(99, 0, 0, _)", 0, 30, (x, v) -> x.passer(99, 0, 0, v));
        range("beast(_, 5)", 0, 99, (x, v) -> x.beast(v, 5));
        range("beast(50, _)", 0, 30, (x, v) -> x.beast(50, v));
        range("check(_, 5, 6)", checkFrom, 99, (x, v) -> x.check(v, 5, 6));
        range("check(99, _, 12)", 0, 12, (x, v) -> x.check(99, v, 12));
        range("check(99, _, 30)", 0, 30, (x, v) -> x.check(99, v, 30));
        range("check(99, 12, _)", 12, 30, (x, v) -> x.check(99, 12, v));
        range("check(99, 0, _)", 0, 30, (x, v) -> x.check(99, 0, v));
        range("look(_, 5)", lookFrom, 99, (x, v) -> x.look(v, 5));
        range("look(99, _)", 0, 30, (x, v) -> x.look(99, v));
    }

    /** Numbers of passers, beasts and checks that there are. */
    private static void rows(int passers, int beasts, int checks) {
        int last = passers - 1;
        range("odds(_, 3, 3)", 0, last, (x, v) -> x.odds(v, 3, 3));
        for (int other : new int[] {0, 1, 4, 9, 10}) {
            range("odds(0, _, " + other + ")", 0, 10 - other, (x, v) -> x.odds(0, v, other));
            range("odds(0, " + other + ", _)", 0, 10 - other, (x, v) -> x.odds(0, other, v));
        }
        for (int other : new int[] {-1, 11, Integer.MAX_VALUE, Integer.MIN_VALUE}) {
            for (int v : new int[] {0, 10 - other, -other, 10, 11, -1, Integer.MIN_VALUE, Integer.MAX_VALUE}) {
                Twins.refused(told + ": odds(0, " + other + ", " + v + ")", story, x -> x.odds(0, other, v), -2, Twins.BAD);
            }
        }
        range("does(_)", 0, last, -10, PassStones::does);
        range("over(_)", 0, beasts - 1, PassStones::over);
        range("advice(_, 99, 5)", 0, last, -10, (x, v) -> x.advice(v, 99, 5));
        range("advice(0, 99, _)", 0, 30, -10, (x, v) -> x.advice(0, 99, v));
        range("hired(_)", -1, checks - 1, -100, PassStones::hired);
        range("turns(_)", -1, last, -10, PassStones::turns);
        range("free(_, 1)", -1, last, (x, v) -> x.free(v, 1));
        range("free(0, _)", 0, 1, (x, v) -> x.free(0, v));
    }
}
