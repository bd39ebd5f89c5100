import java.math.BigInteger;

/** What is kept and what is not: undo, forget, images, STATUS, THE FRACTION, counts and the digest, at their edges. */
public final class KeptTest {
    private static String sentence = "";

    public static void main(String[] args) {
        newObject();
        undone();
        forgotten();
        whatIsAsked();
        onlyTheFraction();
        imagesKeep();
        imagesOverAnotherRoad();
        imagesLeaveOut();
        imagesOfEmptyAndFull();
        statusByReason();
        statusOfOtherNumbers();
        notCounted();
        manyRefusals();
        firstReason();
        fractions();
        counts();
        digestOfNothing();
        digestOfAll();
        Due.end();
    }

    private static void says(String words) {
        sentence = words;
    }

    private static void due(String call, long got, long want) {
        Due.is('"' + sentence + "\": " + call, got, want);
    }

    private static void statusIs(PassStones x, int bad, int no, int full) {
        due("BAD", x.status(0), bad);
        due("NO", x.status(1), no);
        due("FULL", x.status(2), full);
    }

    private static void newObject() {
        says("As told; nobody passes, LOW 0");
        PassStones x = new PassStones();
        for (int what = 0; what <= 4; what++) due("count " + what, x.count(what), 0);
        statusIs(x, 0, 0, 0);
        due("HEIGHT", x.wall(10), 10);
        due("LOW", x.coach(0), 0);
        due("above", x.part(0), 0);
        due("below", x.part(1), 1);
        due("no image 0", x.from(0), -3);
        due("no image 1", x.from(1), -3);
        due("nobody to undo", x.undo(), -3);
        due("an empty text", x.read(), 0);
        Twins.alike("one object is of no matter to another", new PassStones(), afterAnother());
    }

    private static PassStones afterAnother() {
        PassStones x = new PassStones();
        Stories.all(new PassStones());
        return x;
    }

    private static void undone() {
        says("the last PASSER is taken back: how many PASSERS are left. NO: there is none");
        Twins.refused("nobody", Stories::nothing, PassStones::undo, -3, Twins.NO);
        Twins.refused("nobody, other things", x -> { x.beast(1, 1); x.look(1, 1); }, PassStones::undo, -3, Twins.NO);
        PassStones x = Twins.told(Stories::all);
        for (int left = 11; left >= 0; left--) due("left", x.undo(), left);
        due("none any more", x.undo(), -3);
        statusIs(x, 0, 1, 0);
        due("beasts stay", x.count(1), 4);
        due("checks stay", x.count(2), 5);
        due("looks stay", x.count(3), 6);
        due("the wall as at first", x.height(99), 14);
        PassStones one = Twins.told(Stories::some);
        one.passer(99, 2, 1, 6);
        one.odds(4, 0, 1);
        one.undo();
        Twins.alike("as if he had not come", one, Twins.told(Stories::some));
    }

    private static void forgotten() {
        says("No CHECKS, no LOOKS: 1");
        PassStones x = new PassStones();
        due("there were none", x.forget(), 1);
        statusIs(x, 0, 0, 0);
        PassStones y = Twins.told(Stories::all);
        due("there were all", y.forget(), 1);
        int[] left = {12, 4, 0, 0, 200};
        for (int what = 0; what <= 4; what++) due("count " + what, y.count(what), left[what]);
        due("hired without checks", y.hired(-1), 0);
        due("gain without checks", y.hired(0), -100);
        due("a check in 0", y.check(0, 0, 0), 0);
        due("a look in 0", y.look(0, 14), 0);
        due("from brings them back", y.from(0) + y.count(2) + y.count(3), 12);
    }

    private static void whatIsAsked() {
        says("what only asks changes nothing");
        for (Twins.Story story : new Twins.Story[] {Stories::nothing, Stories::some, Stories::all}) {
            PassStones x = Twins.told(story);
            x.height(50);
            x.through();
            x.behind(30, 1);
            x.may(50, 30, 0);
            x.hired(-1);
            x.turns(-1);
            x.treaty();
            x.done();
            x.part(1);
            x.status(2);
            x.count(4);
            x.digest();
            if (x.count(0) > 0) x.does(1);
            if (x.count(0) > 0) x.over(1);
            if (x.count(0) > 0) x.advice(1, 99, 0);
            if (x.count(0) > 0) x.hired(1);
            if (x.count(0) > 0) x.turns(1);
            PassStones other = Twins.told(story);
            Twins.counted("asking", x, other, Twins.NOT_COUNTED);
            Twins.alike("asking", x, other);
        }
    }

    private static void onlyTheFraction() {
        says("CHANCE, NOW, TILL change THE FRACTION alone");
        PassStones x = Twins.told(Stories::some);
        x.image(0);
        long before = x.digest();
        x.chance(3);
        x.free(2, 0);
        x.free(2, 1);
        due("the road is as it was: the same chance once more", x.chance(7), 1);
        due("as it was", x.digest(), before);
        for (int v : new int[] {-1, 31}) {
            Twins.refused("chance " + v, Stories::some, y -> y.chance(v), -2, Twins.BAD);
        }
        Twins.refused("free behind nobody", Stories::nothing, y -> y.free(0, 0), -2, Twins.BAD);
        Twins.refused("free, another what", Stories::some, y -> y.free(-1, 2), -2, Twins.BAD);
    }

    private static void imagesKeep() {
        says("IMAGES 0, 1 keep all; it goes on from one");
        PassStones x = Twins.told(Stories::some);
        long before = x.digest();
        due("image", x.image(0), 1);
        x.wall(1);
        x.coach(2);
        x.odds(0, 10, 0);
        x.undo();
        x.passer(99, 0, 0, 0);
        x.beast(1, 1);
        x.forget();
        due("from", x.from(0), 1);
        due("all as it was", x.digest(), before);
        x.odds(2, 1, 1);
        x.beast(1, 1);
        due("from once more", x.from(0), 1);
        due("the image is as it was", x.digest(), before);
        x.wall(3);
        due("the other one", x.from(1), 1);
        due("the other one is an earlier road", x.count(0), 1);
        due("image over an image", x.image(0), 1);
        x.passer(50, 0, 0, 0);
        due("from", x.from(0), 1);
        due("the later one", x.count(0), 1);
        statusIs(x, 0, 0, 0);
        Twins.refused("image 2", Stories::some, y -> y.image(2), -2, Twins.BAD);
        Twins.refused("image -1", Stories::some, y -> y.image(-1), -2, Twins.BAD);
        Twins.refused("from 2", Stories::some, y -> y.from(2), -2, Twins.BAD);
        Twins.refused("from -1", Stories::some, y -> y.from(-1), -2, Twins.BAD);
        Twins.refused("from 1 with 0 alone", y -> y.image(0), y -> y.from(1), -3, Twins.NO);
        Twins.refused("from 0 with 1 alone", y -> y.image(1), y -> y.from(0), -3, Twins.NO);
    }

    private static void imagesOverAnotherRoad() {
        says("it goes on from one, whatever the road became");
        PassStones x = Twins.told(Stories::some);
        x.image(0);
        long before = x.digest();
        Stories.read(x, "wall 1;coach 9;passer 77 1 1 1;beast 78 2;check 79 3 4;look 80 5;");
        x.odds(0, 2, 8);
        x.image(1);
        long other = x.digest();
        x.clear();
        Stories.write(x, "wall 3;passer 4 2 1 6;");
        due("from 0", x.from(0), 1);
        due("each row is as it was", x.digest(), before);
        x.clear();
        Stories.write(x, "wall 1;coach 9;passer 77 1 1 1;beast 78 2;check 79 3 4;look 80 5;");
        due("from 1", x.from(1), 1);
        due("each row is as it was", x.digest(), other);
        due("the last passer's minute", x.passer(76, 0, 0, 0), -2);
        due("the last check's minute", x.check(79, 0, 0), -2);
        due("the last look's minute", x.look(79, 0), -2);
    }

    private static void imagesLeaveOut() {
        says("all but them, THE TEXT, THE FRACTION and STATUS");
        PassStones x = new PassStones();
        x.image(0);
        x.wall(4);
        x.image(1);
        x.type(65, 1);
        x.chance(4);
        x.wall(31);
        due("from", x.from(0), 1);
        due("10 again", x.height(0), 10);
        due("THE TEXT stays", x.count(4), 1);
        due("THE FRACTION stays", x.part(0), 1);
        statusIs(x, 1, 0, 0);
        due("image 1 stays, though it was kept later", x.from(1), 1);
        due("4", x.height(0), 4);
        x.clear();
        x.wall(5);
        x.chance(4);
        due("from", x.from(1), 1);
        due("an empty text stays", x.count(4), 0);
        due("THE FRACTION stays", x.part(0), 0);
        due("images are not changed by read", x.read() + x.from(1) + x.height(0), 5);
    }

    private static void imagesOfEmptyAndFull() {
        says("an IMAGE of nothing, and of all that there may be");
        PassStones x = new PassStones();
        x.image(0);
        Stories.all(x);
        x.image(1);
        long full = x.digest();
        x.undo();
        due("from 1", x.from(1), 1);
        due("full again", x.digest(), full);
        due("a thirteenth", x.passer(99, 0, 0, 0), -4);
        PassStones y = new PassStones();
        y.image(1);
        y.passer(40, 0, 0, 0);
        y.odds(0, 9, 1);
        y.beast(0, 0);
        y.check(40, 0, 0);
        y.look(40, 0);
        due("from the empty one", y.from(1), 1);
        Twins.alike("a new object but for its image", y, Twins.told(z -> z.image(1)));
        due("minutes begin anew", y.passer(0, 0, 0, 0) + y.check(0, 0, 0) + y.look(0, 0), 0);
        y.chance(9);
        due("odds of one who comes then are as at first", y.part(0), 3);
    }

    // ---- STATUS

    private static void statusByReason() {
        says("STATUS: how many calls were refused as BAD, NO, FULL");
        PassStones x = new PassStones();
        x.wall(-1);
        statusIs(x, 1, 0, 0);
        x.undo();
        statusIs(x, 1, 1, 0);
        for (int i = 0; i < 5; i++) x.beast(0, 0);
        statusIs(x, 1, 1, 1);
        x.from(1);
        statusIs(x, 1, 2, 1);
        x.from(2);
        statusIs(x, 2, 2, 1);
        Stories.write(x, " ".repeat(208));
        statusIs(x, 2, 2, 2);
        x.clear();
        due("read", x.read(), 0);
        x.image(0);
        x.from(0);
        statusIs(x, 2, 2, 2);
    }

    private static void statusOfOtherNumbers() {
        says("where others are told they count as these");
        PassStones x = new PassStones();
        due("does", x.does(0), -10);
        statusIs(x, 1, 0, 0);
        due("advice", x.advice(0, 0, 0), -10);
        statusIs(x, 2, 0, 0);
        due("hired", x.hired(0), -100);
        statusIs(x, 3, 0, 0);
        due("turns", x.turns(0), -10);
        statusIs(x, 4, 0, 0);
        due("sure", x.sure(0), -10);
        statusIs(x, 5, 0, 0);
        due("status 3", x.status(3), -1);
        statusIs(x, 6, 0, 0);
        due("status -1", x.status(-1), -1);
        statusIs(x, 7, 0, 0);
        x.passer(0, 0, 0, 0);
        x.look(0, 20);
        due("sure, no row", x.sure(0), -20);
        statusIs(x, 7, 1, 0);
    }

    private static void notCounted() {
        says("each answer told so below is such a one; ITEMS are none");
        PassStones x = new PassStones();
        due("never", x.through(), -1);
        due("nobody passes", x.treaty(), -1);
        due("nobody pays", x.may(0, 0, 0), -1);
        due("a refused item", Stories.read(x, "wall 31;"), -1000);
        due("a full item", Stories.read(x, "beast 0 0;".repeat(5)), -1004);
        due("a fault", Stories.read(x, "x"), -10);
        due("too early", Stories.read(x, "wall"), -14);
        x.coach(30);
        due("ahead of all", x.through(), -5);
        x.passer(0, 4, 0, 0);
        due("not sure", x.sure(0), -5);
        due("a cart takes two", x.does(0), -2);
        for (int gain = -5; gain <= -1; gain++) {
            x.forget();
            x.check(0, 8 + gain, 8 + gain);
            due("a gain", x.hired(0), gain);
        }
        x.wall(30);
        x.undo();
        x.forget();
        x.check(0, 20, 20);
        due("a gain of -10", x.hired(0), -10);
        statusIs(x, 0, 0, 0);
    }

    private static void manyRefusals() {
        says("STATUS over all the calls that an object is used for");
        PassStones x = new PassStones();
        for (int i = 0; i < 170; i++) {
            x.wall(31);
            x.undo();
            x.passer(i, 0, 0, 0);
        }
        due("BAD: 170, and 70 minutes too late", x.status(0), 240);
        due("NO: ahead of the first passer, and when the last one was undone", x.status(1), 70);
    }

    private static void firstReason() {
        says("the first of: BAD; NO; FULL");
        Twins.refused("BAD ahead of NO", Stories::nothing, x -> x.from(2), -2, Twins.BAD);
        Twins.refused("BAD ahead of FULL, passer", Stories::all, x -> x.passer(39, 0, 0, 0), -2, Twins.BAD);
        Twins.refused("BAD ahead of FULL, beast", Stories::all, x -> x.beast(100, 0), -2, Twins.BAD);
        Twins.refused("BAD ahead of FULL, check", Stories::all, x -> x.check(40, 0, 0), -2, Twins.BAD);
        Twins.refused("BAD ahead of FULL, look", Stories::all, x -> x.look(39, 0), -2, Twins.BAD);
        Twins.refused("BAD ahead of FULL, type", Stories::all, x -> x.type(0, 9), -2, Twins.BAD);
        Twins.refused("BAD ahead of NO, sure", Stories::all, x -> x.sure(12), -10, Twins.BAD);
        Twins.refused("several numbers wrong are one call", Stories::some, x -> x.passer(-1, 6, 2, 31), -2, Twins.BAD);
        Twins.refused("several numbers wrong are one call", Stories::some, x -> x.may(100, 31, 2), -2, Twins.BAD);
        Twins.refused("several numbers wrong are one call", Stories::some, x -> x.advice(9, -1, 31), -10, Twins.BAD);
    }

    // ---- what there is

    private static void fractions() {
        says("THE FRACTION is 0 by 1 at first; lowest terms, below above 0");
        PassStones x = new PassStones();
        fraction("at first", x, 0, 1);
        x.passer(0, 0, 0, 0);
        int[][] told = {{0, 0, 1}, {1, 1, 10}, {2, 1, 5}, {4, 2, 5}, {5, 1, 2}, {6, 3, 5}, {8, 4, 5}, {9, 9, 10}, {10, 1, 1}};
        for (int[] t : told) {
            x.odds(0, t[0], 0);
            x.chance(9);
            fraction("by " + t[0], x, t[1], t[2]);
        }
        due("another part", x.part(2), -2);
        due("another part", x.part(-1), -2);
        x.chance(31);
        fraction("a refused call leaves it", x, 1, 1);
        statusIs(x, 3, 0, 0);
        PassStones y = new PassStones();
        for (int i = 0; i < 12; i++) {
            y.passer(0, 0, 0, 0);
            y.odds(i, 5, 0);
        }
        y.wall(12);
        y.chance(0);
        fraction("twelve by a half", y, 1, 4096);
        y.chance(11);
        fraction("all but that none takes", y, 4095, 4096);
        y.free(11, 0);
        fraction("twelve by a half", y, 1, 4096);
    }

    private static void fraction(String what, PassStones x, long above, long below) {
        due(what + ", above", x.part(0), above);
        due(what + ", below", x.part(1), below);
    }

    private static void counts() {
        says("How many: 0 PASSERS, 1 BEASTS, 2 CHECKS, 3 LOOKS, 4 bytes of THE TEXT");
        PassStones x = new PassStones();
        x.passer(0, 0, 0, 0);
        for (int i = 0; i < 2; i++) x.beast(0, 0);
        for (int i = 0; i < 3; i++) x.check(i, 0, 0);
        for (int i = 0; i < 4; i++) x.look(0, 0);
        x.type(0, 5);
        for (int what = 0; what <= 4; what++) due("count " + what, x.count(what), what + 1);
        PassStones y = Twins.told(Stories::all);
        int[] most = {12, 4, 5, 6, 200};
        for (int what = 0; what <= 4; what++) due("full " + what, y.count(what), most[what]);
        Twins.refused("count 5", Stories::all, z -> z.count(5), -2, Twins.BAD);
        Twins.refused("count -1", Stories::all, z -> z.count(-1), -2, Twins.BAD);
    }

    /** The digest's sum without an end, cut to 64 bits at last. */
    private static long mixed(long... vs) {
        BigInteger h = BigInteger.valueOf(733);
        for (long v : vs) h = h.multiply(BigInteger.valueOf(31)).add(BigInteger.valueOf(v));
        return h.longValue();
    }

    private static void digestOfNothing() {
        says("h = 733; then h = 31 h + v for each v");
        PassStones x = new PassStones();
        due("a new object", x.digest(), mixed(0, 0, 0, 0, 0, 10, 0, 0, 1));
        x.wall(0);
        due("HEIGHT 0", x.digest(), mixed(0, 0, 0, 0, 0, 0, 0, 0, 1));
        x.coach(30);
        due("LOW 30", x.digest(), mixed(0, 0, 0, 0, 0, 0, 30, 0, 1));
        x.type(99, 3);
        due("bytes by their number alone", x.digest(), mixed(0, 0, 0, 0, 3, 0, 30, 0, 1));
        x.image(0);
        x.wall(99);
        due("neither images nor STATUS", x.digest(), mixed(0, 0, 0, 0, 3, 0, 30, 0, 1));
        x.chance(0);
        due("THE FRACTION", x.digest(), mixed(0, 0, 0, 0, 3, 0, 30, 1, 1));
    }

    private static void digestOfAll() {
        says("digest of all that there may be, wrapped around");
        PassStones x = new PassStones();
        long[] vs = new long[5 + 2 + 72 + 8 + 15 + 12 + 2];
        long[] heads = {12, 4, 5, 6, 200, 30, 29};
        System.arraycopy(heads, 0, vs, 0, heads.length);
        int at = heads.length;
        x.wall(30);
        x.coach(29);
        for (int i = 0; i < 12; i++) {
            long[] row = {99, i % 6, i % 2, 30 - i, i % 4, 7 - i % 3};
            x.passer(99, i % 6, i % 2, 30 - i);
            x.odds(i, i % 4, 7 - i % 3);
            System.arraycopy(row, 0, vs, at, 6);
            at += 6;
        }
        for (int i = 0; i < 4; i++, at += 2) {
            x.beast(vsPut(vs, at, 99 - i), vsPut(vs, at + 1, 30 - i));
        }
        for (int i = 0; i < 5; i++, at += 3) {
            x.check(vsPut(vs, at, 95 + i), vsPut(vs, at + 1, i), vsPut(vs, at + 2, 30 - i));
        }
        for (int i = 0; i < 6; i++, at += 2) {
            x.look(vsPut(vs, at, 99), vsPut(vs, at + 1, 25 + i));
        }
        Stories.write(x, "z".repeat(200));
        x.chance(29);
        vs[at] = x.part(0);
        vs[at + 1] = x.part(1);
        due("all", x.digest(), mixed(vs));
        x.passer(99, 0, 0, 0);
        x.undo();
        vs[0] = 11;
        long[] less = new long[vs.length - 6];
        System.arraycopy(vs, 0, less, 0, 7 + 66);
        System.arraycopy(vs, 7 + 72, less, 7 + 66, less.length - 7 - 66);
        due("without the last passer", x.digest(), mixed(less));
    }

    private static int vsPut(long[] vs, int at, int v) {
        vs[at] = v;
        return v;
    }
}
