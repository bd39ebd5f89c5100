import java.util.ArrayList;
import java.util.List;

/**
 * Two objects with the same story: one of them gets a call more, and then both are asked all that there is to ask.
 * So a test sees what a call changes that it should not, wherever it is kept.
 */
final class Twins {
    static final int BAD = 0, NO = 1, FULL = 2, NOT_COUNTED = 3;

    private Twins() { }

    interface Story {
        void tell(PassStones x);
    }

    interface Call {
        long of(PassStones x);
    }

    static PassStones told(Story story) {
        PassStones x = new PassStones();
        story.tell(x);
        return x;
    }

    /** The call is refused by a reason: it is counted there alone, and nothing else changes. */
    static void refused(String what, Story story, Call call, long answer, int reason) {
        PassStones one = told(story);
        PassStones other = told(story);
        Due.is(what, call.of(one), answer);
        counted(what, one, other, reason);
        alike(what, one, other);
    }

    /** The call only asks, or is refused without being counted: nothing changes at all. */
    static void unchanged(String what, Story story, Call call, long answer) {
        refused(what, story, call, answer, NOT_COUNTED);
    }

    /** The call is none of the refused ones: STATUS stays as it is. */
    static void taken(String what, Story story, Call call, long answer) {
        PassStones one = told(story);
        Due.is(what, call.of(one), answer);
        counted(what, one, told(story), NOT_COUNTED);
    }

    static void counted(String what, PassStones one, PassStones other, int reason) {
        for (int r = BAD; r <= FULL; r++) {
            Due.is(what + ": STATUS " + r + " more", one.status(r) - other.status(r), r == reason ? 1 : 0);
        }
    }

    static void alike(String what, PassStones one, PassStones other) {
        List<String> names = new ArrayList<>();
        List<Long> ones = asked(one, names);
        List<Long> others = asked(other, new ArrayList<>());
        for (int i = 0; i < names.size(); i++) {
            Due.is(what + ": then " + names.get(i), ones.get(i), others.get(i));
        }
    }

    /** All that there is to ask, at last also what the images and the text hold; some 200 calls. */
    private static List<Long> asked(PassStones x, List<String> names) {
        List<Long> got = new ArrayList<>();
        note(got, names, "digest", x.digest());
        for (int what = 0; what <= 1; what++) note(got, names, "part " + what, x.part(what));
        for (int what = 0; what <= 4; what++) note(got, names, "count " + what, x.count(what));
        for (int minute = 0; minute <= 99; minute += 3) note(got, names, "height " + minute, x.height(minute));
        for (int i = -1; i < 12; i++) askOf(i, x, got, names);
        note(got, names, "through", x.through());
        note(got, names, "treaty", x.treaty());
        note(got, names, "done", x.done());
        note(got, names, "behind 0", x.behind(15, 0));
        note(got, names, "behind 1", x.behind(15, 1));
        note(got, names, "may 0", x.may(50, 9, 0));
        for (int k = 0; k <= 30; k += 6) {
            x.chance(k);
            note(got, names, "chance " + k + " above", x.part(0));
            note(got, names, "chance " + k + " below", x.part(1));
        }
        for (int i = 0; i <= 1; i++) {
            note(got, names, "from " + i, x.from(i));
            note(got, names, "image " + i, x.digest());
        }
        note(got, names, "read", x.read());
        note(got, names, "the road read", x.digest());
        note(got, names, "clear", x.clear());
        return got;
    }

    private static void askOf(int i, PassStones x, List<Long> got, List<String> names) {
        note(got, names, "does " + i, x.does(i));
        note(got, names, "turns " + i, x.turns(i));
        note(got, names, "sure " + i, x.sure(i));
        note(got, names, "advice " + i, x.advice(i, 99, 7));
        if (i < 5) {
            note(got, names, "over " + i, x.over(i));
            note(got, names, "hired " + i, x.hired(i));
        }
    }

    private static void note(List<Long> got, List<String> names, String name, long answer) {
        got.add(answer);
        names.add(name);
    }
}
