/** The sentences of the terms, parts 1 and 2, that name an edge: each has a test of its own, under its words. */
public final class EdgesTest {
    private static final int TAKER = 0, LAYER = 1, WISHER = 2, CROSS = 3, CART = 4, BY_LAW = 5;
    private static String sentence = "";

    public static void main(String[] args) {
        wallHigh();
        leftBeside();
        numbersAsTheyCome();
        neverFall();
        takers();
        layers();
        wishers();
        crossOnes();
        carts();
        byLaw();
        beastsOver();
        coachStands();
        adviceWhatCanBe();
        adviceLikeOnes();
        adviceMinute();
        checksRise();
        hiredEdges();
        hiredBetween();
        hiredLowAndHigh();
        hiredOnceMore();
        hiredLikeOnes();
        turnsWhatCanBe();
        turnsOnceMore();
        turnsLikeOnes();
        treatyLikeOnes();
        mayNone();
        looksUntilThen();
        doneNeverBeyond();
        sureNone();
        oddsAtFirst();
        oddsWhatCanBe();
        chanceOfNobody();
        freeNowAndTill();
        behindFull();
        behindEmpty();
        Due.end();
    }

    private static void says(String words) {
        sentence = words;
    }

    private static void due(String call, long got, long want) {
        Due.is('"' + sentence + "\": " + call, got, want);
    }

    private static PassStones wall(int high) {
        PassStones x = new PassStones();
        x.wall(high);
        return x;
    }

    private static void fraction(String call, PassStones x, long above, long below) {
        due(call + ", above", x.part(0), above);
        due(call + ", below", x.part(1), below);
    }

    // ---- 1, the wall

    private static void wallHigh() {
        says("THE WALL is HEIGHT stones (0 .. 30; 10 at first)");
        PassStones x = new PassStones();
        due("at first, ahead of all", x.height(0), 10);
        due("at first, behind all", x.height(99), 10);
        due("it was 10", x.wall(0), 10);
        due("none", x.height(0), 0);
        due("it was 0", x.wall(30), 0);
        due("as many as may be", x.height(99), 30);
        due("one too many", x.wall(31), -2);
        due("one too few", x.wall(-1), -2);
        due("it is 30 still", x.wall(30), 30);
        Twins.refused("wall(31)", y -> y.wall(30), y -> y.wall(31), -2, Twins.BAD);
        Twins.refused("wall(-1)", y -> y.wall(0), y -> y.wall(-1), -2, Twins.BAD);
        Twins.refused("coach(31)", y -> y.coach(30), y -> y.coach(31), -2, Twins.BAD);
        Twins.refused("coach(-1)", y -> y.coach(0), y -> y.coach(-1), -2, Twins.BAD);
    }

    private static void leftBeside() {
        says("it never has more: what would be laid beyond is left beside");
        PassStones x = wall(29);
        x.passer(0, LAYER, 1, 0);
        x.passer(1, LAYER, 1, 0);
        x.passer(2, CROSS, 1, 0);
        x.passer(3, TAKER, 0, 0);
        due("to 30", x.does(0), 1);
        due("30", x.height(0), 30);
        due("nothing comes of it", x.does(1), 0);
        due("30 still", x.height(1), 30);
        due("a cross one sees that nothing came of it", x.does(2), 0);
        due("what is left beside is not on it", x.height(3), 29);
        PassStones y = wall(25);
        for (int i = 0; i < 12; i++) y.passer(0, LAYER, 1, 0);
        due("twelve lay", y.height(0), 30);
        due("the fifth", y.does(4), 1);
        due("the sixth", y.does(5), 0);
        PassStones z = wall(30);
        z.passer(1, TAKER, 0, 0);
        z.passer(2, CROSS, 1, 0);
        z.check(1, 30, 30);
        z.check(2, 30, 30);
        due("a cross one at 30 behind a taker, men between them", z.hired(-1), 1);
        due("a man lays", z.hired(0), 1);
        due("nobody must take off what was left beside", z.hired(1), 0);
    }

    private static void numbersAsTheyCome() {
        says("PASSERS 0 .. 11, BEASTS 0 .. 3, CHECKS 0 .. 4, LOOKS 0 .. 5, as they come");
        PassStones x = new PassStones();
        for (int i = 0; i < 12; i++) due("passer " + i, x.passer(7, i % 6, 1, i), i);
        for (int i = 0; i < 4; i++) due("beast " + i, x.beast(9 - i, i), i);
        for (int i = 0; i < 5; i++) due("check " + i, x.check(i, i, i), i);
        for (int i = 0; i < 6; i++) due("look " + i, x.look(3, i), i);
        due("a thirteenth", x.passer(7, 0, 0, 0), -4);
        due("a fifth", x.beast(7, 0), -4);
        due("a sixth", x.check(7, 0, 0), -4);
        due("a seventh", x.look(7, 0), -4);
        int[] most = {12, 4, 5, 6};
        for (int what = 0; what < 4; what++) due("count " + what, x.count(what), most[what]);
        due("FULL", x.status(2), 4);
        due("not BAD", x.status(0), 0);
        due("room behind undo", x.undo() + x.passer(7, 0, 0, 0), 22);
        x.forget();
        due("room behind forget", x.check(0, 0, 0) + x.look(0, 0), 0);
        due("forget makes no room for beasts", x.beast(7, 0), -4);
    }

    private static void neverFall() {
        says("in MINUTES that never fall");
        PassStones x = new PassStones();
        due("99 first", x.passer(99, 0, 0, 0), 0);
        due("99 again", x.passer(99, 0, 0, 0), 1);
        due("98 behind 99", x.passer(98, 0, 0, 0), -2);
        x.undo();
        x.undo();
        due("with none, 0 again", x.passer(0, 0, 0, 0), 0);
        due("1 behind 0", x.passer(1, 0, 0, 0), 1);
        due("0 behind 1", x.passer(0, 0, 0, 0), -2);
        x.undo();
        due("behind undo the last one is at 0", x.passer(0, 0, 0, 0), 1);
        x.image(0);
        x.passer(50, 0, 0, 0);
        x.from(0);
        due("behind from the last one is at 0", x.passer(1, 0, 0, 0), 2);
        due("a look at 99", x.look(99, 0), 0);
        due("a look at 99 again", x.look(99, 1), 1);
        due("a look at 98 behind 99", x.look(98, 0), -2);
        x.forget();
        due("a look at 0 behind forget", x.look(0, 0), 0);
        due("beasts come in any minute", x.beast(99, 0) + x.beast(0, 0), 1);
        due("BAD", x.status(0), 3);
    }

    // ---- 1, the kinds

    /** What a passer does to a wall, behind one who did d to it. */
    private static int deed(int high, int d, int minute, int kind, int brings, int wish) {
        PassStones x = wall(high - d);
        if (d == -2) x.passer(0, CART, 0, 0);
        if (d == -1) x.passer(0, TAKER, 0, 0);
        if (d == 1) x.passer(0, LAYER, 1, 0);
        return x.does(x.passer(minute, kind, brings, wish));
    }

    private static void takers() {
        says("TAKER: takes one off, if there is one");
        due("none", deed(0, 0, 1, TAKER, 1, 30), 0);
        due("one", deed(1, 0, 1, TAKER, 1, 30), -1);
        due("30", deed(30, 0, 1, TAKER, 0, 30), -1);
        PassStones x = wall(11);
        for (int i = 0; i < 12; i++) x.passer(0, TAKER, 0, 0);
        due("the eleventh of 11 stones", x.does(10), -1);
        due("the twelfth finds none", x.does(11), 0);
        due("it is 0, not below", x.height(0), 0);
    }

    private static void layers() {
        says("LAYER: lays one on, if he BRINGS one, else as TAKER");
        due("on 0", deed(0, 0, 1, LAYER, 1, 0), 1);
        due("on 29", deed(29, 0, 1, LAYER, 1, 0), 1);
        due("on 30", deed(30, 0, 1, LAYER, 1, 0), 0);
        due("brings none, 1", deed(1, 0, 1, LAYER, 0, 30), -1);
        due("brings none, 0", deed(0, 0, 1, LAYER, 0, 30), 0);
    }

    private static void wishers() {
        says("WISHER: higher than WISH, lower, just so");
        for (int wish : new int[] {1, 15, 29}) {
            due("one higher than " + wish, deed(wish + 1, 0, 1, WISHER, 1, wish), -1);
            due("just " + wish, deed(wish, 0, 1, WISHER, 1, wish), 0);
            due("one lower than " + wish, deed(wish - 1, 0, 1, WISHER, 1, wish), 1);
            due("one lower, brings none", deed(wish - 1, 0, 1, WISHER, 0, wish), 0);
            due("one higher, brings none", deed(wish + 1, 0, 1, WISHER, 0, wish), -1);
        }
        due("0 at 0", deed(0, 0, 1, WISHER, 1, 0), 0);
        due("0 at 1", deed(1, 0, 1, WISHER, 1, 0), -1);
        due("30 at 30", deed(30, 0, 1, WISHER, 1, 30), 0);
        due("30 at 29", deed(29, 0, 1, WISHER, 1, 30), 1);
        due("brings none at 0: nothing", deed(0, 0, 1, WISHER, 0, 30), 0);
    }

    private static void crossOnes() {
        says("behind one who did d (what came of it, -2 to 1; 0 ahead of all)");
        for (int brings = 0; brings <= 1; brings++) {
            due("ahead of all", deed(5, 0, 1, CROSS, brings, 0), 0);
            due("d is -2", deed(5, -2, 1, CROSS, brings, 0), brings);
            due("d is -1", deed(5, -1, 1, CROSS, brings, 0), brings);
            due("d is 1", deed(5, 1, 1, CROSS, brings, 0), -1);
        }
        due("d is -1 at 0", deed(0, -1, 1, CROSS, 1, 0), 1);
        due("d is -2 at 28", deed(28, -2, 1, CROSS, 1, 0), 1);
        due("d is 1 at 30", deed(30, 1, 1, CROSS, 1, 0), -1);
        due("d is 1 at 1", deed(1, 1, 1, CROSS, 1, 0), -1);
        due("ahead of all at 0", deed(0, 0, 1, CROSS, 1, 0), 0);
        PassStones x = wall(0);
        x.passer(0, TAKER, 0, 0);
        x.passer(0, CROSS, 1, 0);
        due("a taker found none", x.does(1), 0);
        PassStones y = wall(1);
        y.passer(0, CART, 0, 0);
        y.passer(0, CROSS, 1, 0);
        y.passer(0, CROSS, 0, 0);
        y.passer(0, CROSS, 0, 0);
        y.passer(0, CROSS, 1, 0);
        due("a cart found one", y.does(1), 1);
        due("behind a cross one who laid", y.does(2), -1);
        due("behind a cross one who took, brings none", y.does(3), 0);
        due("behind one who did nothing", y.does(4), 0);
        PassStones z = wall(0);
        z.passer(1, LAYER, 1, 0);
        z.passer(2, CROSS, 1, 0);
        z.check(1, 0, 0);
        z.check(2, 0, 0);
        due("d is 1 at 0: men took it off, there is none to take", z.hired(1), 0);
        due("one man", z.hired(-1), 1);
    }

    private static void carts() {
        says("CART: as TAKER, and then once more");
        int[] deeds = {0, -1, -2, -2};
        for (int high = 0; high < deeds.length; high++) due("at " + high, deed(high, 0, 1, CART, 1, 30), deeds[high]);
        due("at 30", deed(30, 0, 1, CART, 1, 30), -2);
    }

    private static void byLaw() {
        says("BY LAW: as WISHER in MINUTES that are even; else nothing");
        for (int minute : new int[] {0, 2, 98}) {
            due("higher in " + minute, deed(9, 0, minute, BY_LAW, 1, 8), -1);
            due("just so in " + minute, deed(8, 0, minute, BY_LAW, 1, 8), 0);
            due("lower in " + minute, deed(7, 0, minute, BY_LAW, 1, 8), 1);
            due("lower, brings none, in " + minute, deed(7, 0, minute, BY_LAW, 0, 8), 0);
        }
        for (int minute : new int[] {1, 3, 97, 99}) {
            due("higher in " + minute, deed(9, 0, minute, BY_LAW, 1, 0), 0);
            due("lower in " + minute, deed(7, 0, minute, BY_LAW, 1, 30), 0);
        }
        due("30 at 29", deed(29, 0, 0, BY_LAW, 1, 30), 1);
        due("0 at 1", deed(1, 0, 0, BY_LAW, 1, 0), -1);
    }

    // ---- 1, beasts and the coach

    private static void beastsOver() {
        says("get over, if the wall is no higher than JUMP behind all who passed until then (that MINUTE too)");
        PassStones x = wall(1);
        x.passer(5, TAKER, 0, 0);
        x.beast(4, 0);
        x.beast(5, 0);
        x.beast(4, 1);
        x.beast(99, 0);
        due("1 is higher than 0, a minute ahead", x.over(0), 0);
        due("0 in that minute", x.over(1), 1);
        due("1 is no higher than 1", x.over(2), 1);
        due("and later on", x.over(3), 1);
        PassStones y = wall(30);
        y.beast(0, 30);
        y.beast(0, 29);
        due("30 by 30", y.over(0), 1);
        due("30 by 29", y.over(1), 0);
        due("none of that number", y.over(2), -2);
        y.passer(0, CART, 0, 0);
        due("by 29 behind one who came later to the road", y.over(1), 1);
    }

    private static void coachStands() {
        says("the first PASSER behind whom it is so (none: never; -5: it is so ahead of all)");
        PassStones x = wall(2);
        x.coach(1);
        due("nobody passes", x.through(), -1);
        x.coach(2);
        due("no higher ahead of all", x.through(), -5);
        x.coach(30);
        due("much lower ahead of all", x.through(), -5);
        x.coach(1);
        x.passer(0, LAYER, 1, 0);
        x.passer(0, TAKER, 1, 0);
        due("never", x.through(), -1);
        x.passer(0, TAKER, 1, 0);
        due("the last one", x.through(), 2);
        x.passer(0, LAYER, 1, 0);
        x.passer(0, TAKER, 1, 0);
        due("the first of two", x.through(), 2);
        x.coach(0);
        due("never", x.through(), -1);
        x.wall(0);
        due("0 is no higher than 0", x.through(), -5);
        PassStones y = wall(30);
        y.coach(30);
        due("30 is no higher than 30", y.through(), -5);
        y.coach(29);
        y.passer(99, TAKER, 0, 0);
        due("passer 0", y.through(), 0);
        due("nothing is refused", y.status(0) + y.status(1) + y.status(2), 0);
        Twins.unchanged("through, never", z -> { }, PassStones::through, -1);
        Twins.unchanged("through, ahead of all", z -> z.coach(10), PassStones::through, -5);
    }

    // ---- 2, what to do

    private static void adviceWhatCanBe() {
        says("-1, 0, 1, whatever he BRINGS; what can not be is left");
        PassStones x = wall(30);
        x.passer(0, TAKER, 0, 0);
        due("1 at 30 can not be", x.advice(0, 0, 30), 0);
        x.passer(0, TAKER, 0, 0);
        due("31 would be nearer behind a taker", x.advice(0, 0, 30), 0);
        x.wall(29);
        due("1 at 29, though he brings none", x.advice(0, 0, 30), 1);
        PassStones y = wall(0);
        y.passer(0, TAKER, 0, 0);
        due("-1 at 0 can not be", y.advice(0, 0, 0), 0);
        y.passer(0, LAYER, 1, 0);
        due("-1 would be nearer ahead of a layer", y.advice(0, 0, 0), 0);
        y.wall(1);
        due("-1 at 1", y.advice(0, 0, 0), -1);
    }

    private static void adviceLikeOnes() {
        says("ADVICE: of like ones 0, then -1, then 1");
        PassStones x = wall(1);
        x.passer(0, TAKER, 0, 0);
        x.passer(0, TAKER, 0, 0);
        due("0 and -1 are alike", x.advice(0, 0, 0), 0);
        due("1 is nearer", x.advice(0, 0, 1), 1);
        PassStones y = wall(29);
        y.passer(0, TAKER, 0, 0);
        y.passer(0, LAYER, 1, 0);
        due("0 and 1 are alike", y.advice(0, 0, 30), 0);
        due("-1 is nearer", y.advice(0, 0, 29), -1);
        PassStones z = wall(6);
        z.passer(0, TAKER, 0, 0);
        z.passer(0, WISHER, 1, 6);
        for (int h : new int[] {0, 6, 30}) due("all are alike", z.advice(0, 0, h), 0);
    }

    private static void adviceMinute() {
        says("so that the wall is nearest to a height in a MINUTE; a MINUTE ahead of his is BAD: -10");
        Twins.Story story = x -> {
            x.wall(5);
            x.passer(4, TAKER, 0, 0);
            x.passer(6, TAKER, 0, 0);
            x.passer(6, CART, 0, 0);
            x.passer(7, LAYER, 1, 0);
        };
        Twins.unchanged("his own minute", story, x -> x.advice(0, 4, 5), 0);
        Twins.unchanged("nobody else until 5", story, x -> x.advice(0, 5, 4), -1);
        Twins.unchanged("all of 6 too: 4, 3, 1 as told", story, x -> x.advice(1, 6, 3), 1);
        Twins.unchanged("the last one of 6", story, x -> x.advice(2, 6, 2), -1);
        Twins.unchanged("one of 7 too: 4, 3, 3, 4", story, x -> x.advice(2, 7, 4), 0);
        Twins.unchanged("all until 99", story, x -> x.advice(3, 99, 0), -1);
        Twins.Story cross = x -> {
            x.wall(5);
            x.passer(0, TAKER, 0, 0);
            x.passer(0, CROSS, 1, 0);
        };
        for (int h : new int[] {0, 4, 5, 6, 30}) {
            Twins.unchanged("a cross one behind him makes all alike", cross, x -> x.advice(0, 0, h), 0);
        }
        Twins.refused("a minute ahead of his", story, x -> x.advice(1, 5, 3), -10, Twins.BAD);
        Twins.refused("ahead of the last one's", story, x -> x.advice(3, 6, 3), -10, Twins.BAD);
    }

    private static void checksRise() {
        says("CHECKS in MINUTES that rise: no later than the last one, a above b, too, are BAD");
        PassStones x = new PassStones();
        due("0", x.check(0, 30, 30), 0);
        due("0 again", x.check(0, 30, 30), -2);
        due("a above b", x.check(1, 1, 0), -2);
        due("a is b", x.check(1, 0, 0), 1);
        due("98", x.check(98, 0, 30), 2);
        due("97", x.check(97, 0, 30), -2);
        due("99", x.check(99, 29, 30), 3);
        due("99 again", x.check(99, 29, 30), -2);
        due("30 above 29", x.check(99, 30, 29), -2);
        x.image(0);
        x.forget();
        due("0 behind forget", x.check(0, 0, 0), 0);
        x.from(0);
        due("99 is the last one again", x.check(99, 0, 0), -2);
        due("BAD", x.status(0), 6);
    }

    private static void hiredEdges() {
        says("HIRED: behind all others, 0 to 30 high. Without CHECKS: 0");
        PassStones x = wall(30);
        Twins.unchanged("without checks", Stories::nothing, y -> y.hired(-1), 0);
        Twins.refused("gain 0 without checks", Stories::nothing, y -> y.hired(0), -100, Twins.BAD);
        due("without checks", x.hired(-1), 0);
        x.check(0, 0, 0);
        due("all are taken off", x.hired(0), -30);
        for (int i = 1; i < 5; i++) x.check(i, i % 2 * 30, i % 2 * 30);
        due("as many as can be", x.hired(-1), 150);
        for (int i = 0; i < 5; i++) due("gain " + i, x.hired(i), i % 2 * 60 - 30);
        PassStones y = new PassStones();
        y.check(50, 0, 30);
        due("it is so", y.hired(-1), 0);
        due("it is so", y.hired(0), 0);
        PassStones z = new PassStones();
        z.check(5, 10, 12);
        due("10 is as low as told", z.hired(0), 0);
        z.wall(12);
        due("12 is as high as told", z.hired(0), 0);
        z.wall(9);
        due("9 is one lower", z.hired(0), 1);
        z.wall(13);
        due("13 is one higher", z.hired(0), -1);
        z.passer(5, TAKER, 0, 0);
        due("who passes in that minute is ahead of them", z.hired(-1), 0);
        z.undo();
        z.passer(6, TAKER, 0, 0);
        due("who passes later is not", z.hired(-1), 1);
    }

    private static void hiredBetween() {
        says("HIRED: the fewest by which all CHECKS are so, whoever passes between them");
        PassStones x = new PassStones();
        x.check(1, 8, 10);
        x.passer(2, LAYER, 1, 0);
        x.check(2, 9, 9);
        gains("a layer between", x, 2, -2, 0);
        PassStones y = new PassStones();
        y.check(1, 0, 30);
        for (int i = 0; i < 3; i++) y.passer(2, WISHER, 1, 8);
        y.check(2, 7, 7);
        gains("wishers between", y, 1, 0, -1);
        PassStones z = new PassStones();
        z.passer(1, TAKER, 0, 0);
        z.check(1, 0, 30);
        z.passer(2, CROSS, 1, 0);
        z.check(2, 9, 9);
        gains("a cross one between, behind a taker", z, 1, -1, 0);
        PassStones w = wall(5);
        w.check(1, 0, 30);
        for (int i = 0; i < 3; i++) w.passer(2, LAYER, 1, 0);
        w.check(2, 6, 6);
        gains("layers between", w, 2, -2, 0);
        w.passer(3, LAYER, 1, 0);
        gains("one behind the last check is of no matter", w, 2, -2, 0);
        w.check(3, 7, 7);
        gains("he is now", w, 2, -2, 0, 0);
        PassStones u = wall(5);
        for (int i = 0; i < 3; i++) u.passer(2, LAYER, 1, 0);
        u.check(1, 0, 30);
        u.check(2, 6, 6);
        u.check(3, 7, 7);
        gains("three checks at once, the last one highest", u, 3, -2, 0, 1);
        PassStones v = wall(30);
        v.check(1, 0, 30);
        v.check(2, 28, 28);
        gains("from 30", v, 2, -2, 0);
        v.passer(1, LAYER, 1, 0);
        gains("one who lays nothing on", v, 2, -2, 0);
    }

    private static void hiredLowAndHigh() {
        says("HIRED: 0 to 30 high, between checks that allow all of it");
        PassStones x = wall(2);
        x.check(1, 0, 30);
        x.passer(2, CART, 0, 0);
        x.check(2, 0, 30);
        x.check(3, 0, 0);
        gains("a cart takes all", x, 0, 0, 0, 0);
        PassStones y = wall(29);
        y.check(1, 0, 30);
        y.passer(2, LAYER, 1, 0);
        y.check(2, 0, 30);
        y.passer(3, LAYER, 1, 0);
        y.check(3, 30, 30);
        gains("layers lay to 30, and one stone is left beside", y, 0, 0, 0, 0);
        y.wall(28);
        gains("layers lay to 30", y, 0, 0, 0, 0);
        y.wall(27);
        gains("one man more, as late as can be", y, 1, 0, 0, 1);
    }

    private static void hiredOnceMore() {
        says("HIRED, asked once more behind other things");
        PassStones x = new PassStones();
        x.check(1, 0, 0);
        x.check(2, 30, 30);
        x.check(3, 0, 0);
        gains("three", x, 70, -10, 30, -30);
        gains("three again", x, 70, -10, 30, -30);
        x.forget();
        due("none", x.hired(-1), 0);
        x.check(1, 0, 30);
        gains("one", x, 0, 0);
        x.check(2, 0, 30);
        gains("two", x, 0, 0, 0);
        x.image(0);
        x.check(3, 12, 12);
        gains("three others", x, 2, 0, 0, 2);
        x.from(0);
        gains("two", x, 0, 0, 0);
        due("gain 2 is none any more", x.hired(2), -100);
        x.forget();
        x.check(1, 0, 30);
        x.check(2, 0, 0);
        gains("two, to 0", x, 10, -10, 0);
        x.forget();
        x.check(1, 0, 30);
        gains("one, what was told of the other is forgotten", x, 0, 0);
    }

    private static void hiredLikeOnes() {
        says("HIRED: of like ones the row with the least GAIN 0, then GAIN 1");
        PassStones x = new PassStones();
        x.check(1, 0, 30);
        x.check(2, 0, 30);
        x.check(3, 7, 7);
        gains("all three are taken off at once", x, 3, -3, 0, 0);
        PassStones y = new PassStones();
        y.check(1, 0, 30);
        y.check(2, 0, 30);
        y.check(3, 13, 13);
        gains("all three are laid on at last", y, 3, 0, 0, 3);
        PassStones z = new PassStones();
        z.check(1, 10, 30);
        z.check(2, 0, 30);
        z.check(3, 0, 8);
        gains("not at first, then as soon as can be", z, 2, 0, -2, 0);
        PassStones w = new PassStones();
        w.check(1, 12, 30);
        w.check(2, 0, 30);
        w.check(3, 14, 30);
        gains("as few as must be at first, the rest as late as can be", w, 4, 2, 0, 2);
    }

    private static void gains(String what, PassStones x, int men, int... gains) {
        due(what, x.hired(-1), men);
        for (int i = 0; i < gains.length; i++) due(what + ", gain " + i, x.hired(i), gains[i]);
    }

    private static void turnsWhatCanBe() {
        says("TURNS: 0; -1, if there is a stone; 1, if he BRINGS one, and it is lower than 30");
        Twins.unchanged("nobody", Stories::nothing, x -> x.turns(-1), 10);
        int[][] told = {{0, 1, 0, 0}, {1, 1, 0, -1}, {29, 1, 30, 1}, {30, 1, 30, 0}, {29, 0, 30, 0}, {0, 0, 30, 0}, {30, 0, 0, -1},
            {0, 1, 30, 1}, {5, 1, 4, -1}, {5, 1, 6, 1}, {5, 0, 6, 0}, {5, 1, 5, 0}};
        for (int[] t : told) {
            PassStones x = wall(t[0]);
            x.passer(0, CART, t[1], t[2]);
            due("at " + t[0] + ", brings " + t[1] + ", wishes " + t[2], x.turns(0), t[3]);
            due("the height in the end", x.turns(-1), t[0] + t[3]);
        }
        PassStones y = wall(30);
        for (int wish : new int[] {30, 27, 27, 27}) y.passer(0, TAKER, 1, wish);
        due("at 30 he can not lay one more ahead of three who take", y.turns(0), 0);
        due("the others have it their way", y.turns(-1), 27);
        PassStones w = wall(0);
        for (int wish : new int[] {0, 3, 3, 3}) w.passer(0, TAKER, 1, wish);
        due("at 0 he can not take one more ahead of three who lay", w.turns(0), 0);
        due("the others have it their way", w.turns(-1), 3);
        PassStones v = wall(1);
        for (int wish : new int[] {3, 30, 30, 30}) v.passer(0, TAKER, 1, wish);
        due("the last stone is one to take", v.turns(0), -1);
        due("three lay", v.turns(-1), 3);
        PassStones z = wall(24);
        for (int i = 0; i < 12; i++) z.passer(0, CART, 1, 30);
        due("twelve lay to 30", z.turns(-1), 30);
        z.wall(17);
        due("twelve can not lay thirteen", z.turns(-1), 29);
        for (int i = 0; i < 12; i++) due("each lays", z.turns(i), 1);
        due("as told it is another thing", z.height(0), 0);
    }

    private static void turnsOnceMore() {
        says("TURNS, asked once more behind other things");
        PassStones x = wall(0);
        x.passer(0, TAKER, 1, 1);
        for (int i = 0; i < 3; i++) due("he lays each time", x.turns(0), 1);
        x.passer(0, TAKER, 1, 2);
        due("he leaves it to the other one", x.turns(0), 0);
        due("who lays one on", x.turns(-1), 1);
        x.undo();
        due("the first one alone", x.turns(-1), 1);
        x.undo();
        due("nobody", x.turns(-1), 0);
        x.wall(30);
        x.passer(0, TAKER, 1, 29);
        for (int i = 0; i < 3; i++) due("he takes each time", x.turns(0), -1);
        due("29", x.turns(-1), 29);
    }

    private static void turnsLikeOnes() {
        says("TURNS: of like ones 0, then -1, then 1");
        PassStones x = wall(1);
        x.passer(0, TAKER, 1, 0);
        x.passer(0, TAKER, 0, 0);
        due("0 and -1 are alike: the other one takes it", x.turns(0), 0);
        due("the other one takes it", x.turns(1), -1);
        PassStones y = wall(5);
        y.passer(0, TAKER, 1, 6);
        y.passer(0, TAKER, 1, 6);
        due("0 and 1 are alike: the other one lays it", y.turns(0), 0);
        due("the other one lays it", y.turns(1), 1);
        PassStones z = wall(5);
        z.passer(0, TAKER, 1, 7);
        z.passer(0, TAKER, 0, 3);
        due("-1 is no better than 0 for the last one, it is for him", z.turns(1), -1);
        due("1 is best", z.turns(0), 1);
        due("5", z.turns(-1), 5);
    }

    private static void treatyLikeOnes() {
        says("TREATY: the height (0 .. 30) with the least sum, of like ones the least. NONE: nobody passes");
        Twins.unchanged("nobody", Stories::nothing, PassStones::treaty, -1);
        PassStones x = new PassStones();
        x.passer(0, TAKER, 0, 0);
        due("0", x.treaty(), 0);
        x.passer(0, TAKER, 0, 30);
        due("all are alike", x.treaty(), 0);
        x.passer(0, TAKER, 0, 30);
        due("30", x.treaty(), 30);
        x.passer(0, TAKER, 0, 29);
        due("29 and 30 are alike", x.treaty(), 29);
        x.undo();
        x.undo();
        x.undo();
        x.undo();
        due("nobody any more", x.treaty(), -1);
        for (int wish = 0; wish <= 30; wish++) {
            PassStones y = new PassStones();
            y.passer(0, TAKER, 0, wish);
            due("one alone has it his way", y.treaty(), wish);
        }
        for (int i = 0; i < 12; i++) x.passer(0, TAKER, 0, i < 6 ? 4 : 9);
        due("six and six", x.treaty(), 4);
    }

    private static void mayNone() {
        says("MAY: who (none: nobody passed, nothing lacks), how many");
        PassStones x = new PassStones();
        due("nobody passes", x.may(99, 9, 0), -1);
        due("one too many", x.may(99, 9, 1), 1);
        x.passer(5, TAKER, 0, 0);
        x.passer(5, LAYER, 1, 0);
        x.passer(6, TAKER, 0, 0);
        due("nobody passed until 4", x.may(4, 0, 0), -1);
        due("how many all the same", x.may(4, 0, 1), 10);
        due("the last one of 5", x.may(5, 9, 0), 1);
        due("one too many", x.may(5, 9, 1), 1);
        due("nothing lacks", x.may(5, 10, 0), -1);
        due("nothing lacks", x.may(5, 10, 1), 0);
        due("one lacks", x.may(5, 11, 0), 1);
        due("one lacks", x.may(5, 11, 1), 1);
        due("the last one of 6", x.may(6, 30, 0), 2);
        due("21 lack", x.may(6, 30, 1), 21);
        due("9 are too many", x.may(99, 0, 1), 9);
        PassStones y = wall(0);
        y.passer(0, TAKER, 0, 0);
        due("he found none, and pays", y.may(0, 30, 0), 0);
        due("30 lack", y.may(0, 30, 1), 30);
        due("nothing is refused", x.status(0) + y.status(0), 0);
    }

    // ---- 2, who did what, odds

    private static void looksUntilThen() {
        says("LOOKS: how high it was (behind all who passed until then)");
        PassStones x = new PassStones();
        due("nobody, no looks", x.done(), 1);
        x.look(0, 10);
        due("nobody, 10", x.done(), 1);
        x.look(0, 11);
        due("nobody, 10 and 11", x.done(), 0);
        PassStones y = new PassStones();
        y.passer(5, TAKER, 0, 0);
        y.passer(5, TAKER, 0, 0);
        y.look(4, 10);
        due("10 ahead of all", y.done(), 9);
        y.look(5, 12);
        due("both laid in that minute", y.done(), 1);
        y.look(99, 12);
        due("and it stays so", y.done(), 1);
        y.look(99, 11);
        due("it can not be two heights", y.done(), 0);
        y.forget();
        y.look(4, 9);
        due("9 ahead of all was not", y.done(), 0);
        y.forget();
        y.look(5, 13);
        due("two can not lay three", y.done(), 0);
        y.forget();
        y.look(0, 10);
        y.passer(6, TAKER, 0, 0);
        due("one who comes to the road later counts", y.done(), 27);
    }

    private static void doneNeverBeyond() {
        says("DONE: rows never below 0, above 30");
        for (int high : new int[] {0, 30}) {
            PassStones x = wall(high);
            x.passer(0, LAYER, 1, 0);
            due("one at " + high, x.done(), 2);
            due("not sure at " + high, x.sure(0), -5);
            x.passer(0, LAYER, 1, 0);
            due("two at " + high, x.done(), 5);
        }
        for (int high : new int[] {1, 29}) {
            PassStones x = wall(high);
            x.passer(0, LAYER, 1, 0);
            due("one at " + high, x.done(), 3);
            x.passer(0, LAYER, 1, 0);
            due("two at " + high, x.done(), 8);
        }
        int[][] seen = {{30, 29, -1}, {30, 30, 0}, {29, 30, 1}, {0, 1, 1}, {0, 0, 0}, {1, 0, -1}};
        for (int[] s : seen) {
            PassStones x = wall(s[0]);
            x.passer(0, LAYER, 1, 0);
            x.look(0, s[1]);
            due("one row from " + s[0] + " to " + s[1], x.done(), 1);
            due("sure from " + s[0] + " to " + s[1], x.sure(0), s[2]);
        }
        PassStones y = wall(12);
        for (int i = 0; i < 12; i++) y.passer(0, LAYER, 1, 0);
        due("twelve at 12", y.done(), 531441);
        y.wall(11);
        due("twelve at 11: all but the one that takes twelve", y.done(), 531440);
        y.wall(18);
        due("twelve at 18", y.done(), 531441);
        y.wall(19);
        due("twelve at 19: all but the one that lays twelve", y.done(), 531440);
    }

    private static void sureNone() {
        says("SURE: what one did in all of them. -5: not sure. NO: -20: no row fits");
        Twins.Story two = x -> {
            x.passer(1, TAKER, 0, 0);
            x.passer(2, TAKER, 0, 0);
        };
        Twins.unchanged("free", two, x -> x.sure(0), -5);
        for (int deed = -1; deed <= 1; deed++) {
            int did = deed;
            Twins.unchanged("did " + deed, x -> { two.tell(x); x.look(1, 10 + did); }, x -> x.sure(0), deed);
            Twins.unchanged("of the other nothing", x -> { two.tell(x); x.look(1, 10 + did); }, x -> x.sure(1), -5);
        }
        Twins.unchanged("two ways to 11, the first", x -> { two.tell(x); x.look(2, 11); }, x -> x.sure(0), -5);
        Twins.unchanged("1 alone to 12", x -> { two.tell(x); x.look(2, 12); }, x -> x.sure(1), 1);
        Twins.refused("no row", x -> { two.tell(x); x.look(2, 13); }, x -> x.sure(1), -20, Twins.NO);
        Twins.refused("BAD ahead of NO", x -> { two.tell(x); x.look(2, 13); }, x -> x.sure(2), -10, Twins.BAD);
        Twins.refused("BAD without passers", x -> x.look(2, 13), x -> x.sure(0), -10, Twins.BAD);
        Twins.unchanged("no row is 0 rows, not refused", x -> { two.tell(x); x.look(2, 13); }, PassStones::done, 0);
    }

    private static void oddsAtFirst() {
        says("ODDS: t and l 10 at most; 3, 3 at first");
        PassStones x = new PassStones();
        x.passer(0, LAYER, 1, 0);
        x.chance(9);
        fraction("he takes by 3", x, 3, 10);
        x.chance(10);
        fraction("he lays by 3", x, 7, 10);
        due("10, 0", x.odds(0, 10, 0), 1);
        x.chance(9);
        fraction("he takes", x, 1, 1);
        due("10, 1", x.odds(0, 10, 1), -2);
        due("0, 10", x.odds(0, 0, 10), 1);
        x.chance(10);
        fraction("he lays", x, 0, 1);
        due("1, 10", x.odds(0, 1, 10), -2);
        due("0, 0", x.odds(0, 0, 0), 1);
        x.chance(10);
        fraction("he leaves it", x, 1, 1);
        x.chance(9);
        fraction("he leaves it", x, 0, 1);
        due("5, 5", x.odds(0, 5, 5), 1);
        due("5, 6", x.odds(0, 5, 6), -2);
        x.chance(9);
        fraction("5, 5 it stays", x, 1, 2);
        x.undo();
        x.passer(0, LAYER, 1, 0);
        x.chance(9);
        fraction("another one: 3, 3 at first", x, 3, 10);
    }

    private static void oddsWhatCanBe() {
        says("whatever he BRINGS, if there is a stone, if it is lower than 30; else, and by the rest, nothing");
        PassStones x = wall(0);
        x.passer(0, LAYER, 0, 0);
        x.odds(0, 6, 1);
        x.chance(0);
        fraction("none to take at 0, he lays though he brings none", x, 9, 10);
        x.wall(1);
        x.chance(0);
        fraction("one to take at 1", x, 3, 5);
        x.wall(30);
        x.odds(0, 1, 6);
        x.chance(29);
        fraction("none is laid at 30", x, 1, 10);
        x.chance(30);
        fraction("never above 30", x, 1, 1);
        x.wall(29);
        x.chance(29);
        fraction("one is laid at 29", x, 2, 5);
    }

    private static void chanceOfNobody() {
        says("CHANCE that it is no higher than k behind all");
        PassStones x = new PassStones();
        x.chance(9);
        fraction("10 is higher than 9", x, 0, 1);
        x.chance(10);
        fraction("10 is no higher than 10", x, 1, 1);
        x.wall(0);
        x.chance(0);
        fraction("0 is no higher than 0", x, 1, 1);
        x.wall(30);
        x.chance(29);
        fraction("30 is higher than 29", x, 0, 1);
        x.chance(30);
        fraction("30 is no higher than 30", x, 1, 1);
        PassStones y = wall(12);
        for (int i = 0; i < 12; i++) {
            y.passer(0, LAYER, 1, 0);
            y.odds(i, 7, 1);
        }
        y.chance(0);
        fraction("all of twelve take", y, 13841287201L, 1000000000000L);
        y.chance(23);
        fraction("not all of twelve lay", y, 999999999999L, 1000000000000L);
    }

    private static void freeNowAndTill() {
        says("by LOW, exactly the first time: NOW; by then: TILL; NONE: ahead of all");
        PassStones x = wall(1);
        x.passer(0, LAYER, 1, 0);
        x.passer(0, LAYER, 1, 0);
        x.passer(0, LAYER, 1, 0);
        x.odds(0, 5, 0);
        x.odds(1, 0, 10);
        x.odds(2, 10, 0);
        int[][] now = {{0, 1}, {1, 2}, {0, 1}, {0, 1}};
        int[][] till = {{0, 1}, {1, 2}, {1, 2}, {1, 2}};
        for (int i = -1; i < 3; i++) {
            due("free", x.free(i, 0), 1);
            fraction("now behind " + i, x, now[i + 1][0], now[i + 1][1]);
            due("free", x.free(i, 1), 1);
            fraction("till behind " + i, x, till[i + 1][0], till[i + 1][1]);
        }
        x.coach(1);
        for (int i = -1; i < 3; i++) {
            x.free(i, 0);
            fraction("through ahead of all, now behind " + i, x, i == -1 ? 1 : 0, 1);
            x.free(i, 1);
            fraction("through ahead of all, till behind " + i, x, 1, 1);
        }
        x.wall(30);
        x.coach(29);
        x.free(0, 0);
        fraction("29 behind the first", x, 1, 2);
        x.free(2, 0);
        fraction("29 behind the last for the first time", x, 1, 2);
        x.free(2, 1);
        fraction("29 by then", x, 1, 1);
        due("behind nobody", x.free(3, 0), -2);
        fraction("unchanged", x, 1, 1);
        x.coach(30);
        x.free(2, 0);
        fraction("30 by 30 ahead of all, not behind the last", x, 0, 1);
        x.free(2, 1);
        fraction("30 by 30 by then", x, 1, 1);
        x.free(-1, 0);
        fraction("30 by 30 ahead of all", x, 1, 1);
        PassStones y = wall(0);
        y.free(-1, 0);
        fraction("0 by 0 ahead of all", y, 1, 1);
    }

    // ---- 2, two walls

    private static void behindFull() {
        says("what one takes off the first he lays on it (30 at most: left beside)");
        PassStones x = wall(3);
        x.passer(0, CART, 0, 0);
        walls("29 and two more", x, 29, 1, 30);
        walls("28 and two more", x, 28, 1, 30);
        walls("27 and two more", x, 27, 1, 29);
        walls("30 and two more", x, 30, 1, 30);
        x.passer(0, CART, 0, 0);
        walls("the first has one only", x, 0, 0, 3);
        x.passer(0, TAKER, 0, 0);
        walls("the first has none", x, 0, 0, 3);
        PassStones y = wall(3);
        y.passer(0, TAKER, 0, 0);
        y.passer(0, LAYER, 1, 0);
        walls("what was left beside does not come back", y, 30, 3, 29);
        PassStones z = new PassStones();
        walls("nobody", z, 30, 10, 30);
        walls("nobody", z, 0, 10, 0);
    }

    private static void behindEmpty() {
        says("he lays one on the first only if there is one on it, which he takes off there (else he does nothing)");
        PassStones x = wall(5);
        x.passer(0, LAYER, 1, 0);
        walls("none there", x, 0, 5, 0);
        walls("one there", x, 1, 6, 0);
        x.passer(1, LAYER, 1, 0);
        walls("one there for two", x, 1, 6, 0);
        walls("two there", x, 2, 7, 0);
        x.passer(2, CROSS, 1, 0);
        walls("a cross one sees that the last one did nothing", x, 1, 6, 0);
        walls("a cross one sees that the last one laid", x, 2, 6, 1);
        PassStones w = wall(5);
        w.passer(0, CROSS, 1, 0);
        walls("a cross one ahead of all", w, 5, 5, 5);
        PassStones y = wall(5);
        y.passer(0, LAYER, 0, 0);
        y.passer(0, WISHER, 1, 5);
        walls("brings none: he takes, and the next one finds it there", y, 0, 5, 0);
        y.passer(0, BY_LAW, 1, 30);
        walls("by law, none there", y, 0, 5, 0);
        PassStones z = wall(30);
        z.passer(0, LAYER, 1, 0);
        walls("nothing comes of it at 30, nothing is taken there", z, 5, 30, 5);
        z.wall(29);
        walls("at 29 it is", z, 5, 30, 4);
    }

    private static void walls(String what, PassStones x, int high, int first, int second) {
        due(what + ", the first", x.behind(high, 0), first);
        due(what + ", the second", x.behind(high, 1), second);
    }
}
