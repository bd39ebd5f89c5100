/** Each promise of the document by hand: what is ordinary, the edges that are named, and wrong inputs. */
public final class PromisesTest {
    private static final int BIG = Integer.MAX_VALUE;
    private static final int SMALL = Integer.MIN_VALUE;
    private static String promise = "";

    public static void main(String[] args) {
        newObject();
        wallAndCoach();
        passers();
        kinds();
        undoing();
        beasts();
        oddsOfOne();
        typing();
        roads();
        faults();
        refusedItems();
        heights();
        coachThrough();
        twoWalls();
        firstOfMay();
        advices();
        checks();
        hiring();
        turnsOfAll();
        treaties();
        looks();
        rows();
        chances();
        images();
        statuses();
        digests();
        Due.end();
    }

    private static void due(String call, long got, long want) {
        Due.is(promise + ": " + call, got, want);
    }

    private static void write(PassStones x, String text) {
        x.clear();
        for (int i = 0; i < text.length(); i++) x.type(text.charAt(i), 1);
    }

    private static int read(PassStones x, String text) {
        write(x, text);
        return x.read();
    }

    private static void fraction(PassStones x, String call, long above, long below) {
        due(call + " above", x.part(0), above);
        due(call + " below", x.part(1), below);
    }

    private static void newObject() {
        promise = "1 a new object";
        PassStones x = new PassStones();
        for (int what = 0; what <= 4; what++) due("count", x.count(what), 0);
        for (int what = 0; what <= 2; what++) due("status", x.status(what), 0);
        due("height", x.height(0), 10);
        due("low", x.coach(0), 0);
        fraction(x, "at first", 0, 1);
        due("no image", x.from(0), PassStones.NO);
        due("no image", x.from(1), PassStones.NO);
        due("NONE", PassStones.NONE, -1);
        due("BAD", PassStones.BAD, -2);
        due("NO", PassStones.NO, -3);
        due("FULL", PassStones.FULL, -4);
    }

    private static void wallAndCoach() {
        promise = "2 wall";
        PassStones x = new PassStones();
        due("30", x.wall(30), 10);
        due("0", x.wall(0), 30);
        for (int h : new int[] {-1, 31, BIG, SMALL}) due("wrong", x.wall(h), -2);
        due("unchanged", x.wall(5), 0);
        promise = "3 coach";
        due("30", x.coach(30), 0);
        due("0", x.coach(0), 30);
        for (int h : new int[] {-1, 31, BIG, SMALL}) due("wrong", x.coach(h), -2);
        due("unchanged", x.coach(5), 0);
        due("status", x.status(0), 8);
    }

    private static void passers() {
        promise = "4 passer";
        PassStones x = new PassStones();
        due("wrong", x.passer(-1, 0, 0, 0), -2);
        due("wrong", x.passer(100, 0, 0, 0), -2);
        due("wrong", x.passer(0, -1, 0, 0), -2);
        due("wrong", x.passer(0, 6, 0, 0), -2);
        due("wrong", x.passer(0, 0, -1, 0), -2);
        due("wrong", x.passer(0, 0, 2, 0), -2);
        due("wrong", x.passer(0, 0, 0, -1), -2);
        due("wrong", x.passer(0, 0, 0, 31), -2);
        due("none came", x.count(0), 0);
        due("first", x.passer(7, 5, 1, 30), 0);
        due("same minute", x.passer(7, 0, 0, 0), 1);
        due("ahead of the last", x.passer(6, 0, 0, 0), -2);
        for (int i = 2; i < 12; i++) due("more", x.passer(99, 4, 0, 0), i);
        due("full", x.passer(99, 0, 0, 0), -4);
        due("wrong goes first", x.passer(98, 0, 0, 0), -2);
        due("count", x.count(0), 12);
        due("status", x.status(0), 10);
        due("status", x.status(2), 1);
    }

    /** What a passer does behind one who did d, the wall being high just ahead of him. */
    private static int deed(int high, int d, int minute, int kind, int brings, int wish) {
        PassStones x = new PassStones();
        x.wall(high - d);
        if (d < 0) x.passer(0, d == -2 ? 4 : 0, 0, 0);
        if (d > 0) x.passer(0, 1, 1, 0);
        return x.does(x.passer(minute, kind, brings, wish));
    }

    private static void kinds() {
        promise = "12 does";
        due("taker", deed(3, 0, 1, 0, 1, 9), -1);
        due("taker at 0", deed(0, 0, 1, 0, 1, 9), 0);
        due("layer", deed(3, 0, 1, 1, 1, 0), 1);
        due("layer at 30", deed(30, 0, 1, 1, 1, 0), 0);
        due("layer without", deed(3, 0, 1, 1, 0, 9), -1);
        due("layer without at 0", deed(0, 0, 1, 1, 0, 9), 0);
        due("wisher higher", deed(5, 0, 1, 2, 1, 4), -1);
        due("wisher just so", deed(5, 0, 1, 2, 1, 5), 0);
        due("wisher lower", deed(5, 0, 1, 2, 1, 6), 1);
        due("wisher lower without", deed(5, 0, 1, 2, 0, 6), 0);
        due("wisher higher without", deed(5, 0, 1, 2, 0, 4), -1);
        due("cross ahead of all", deed(5, 0, 1, 3, 1, 0), 0);
        due("cross behind a layer", deed(5, 1, 1, 3, 0, 0), -1);
        due("cross behind a taker", deed(5, -1, 1, 3, 1, 0), 1);
        due("cross behind a cart", deed(5, -2, 1, 3, 1, 0), 1);
        due("cross without", deed(5, -1, 1, 3, 0, 0), 0);
        due("cart", deed(5, 0, 1, 4, 1, 9), -2);
        due("cart at 1", deed(1, 0, 1, 4, 1, 9), -1);
        due("cart at 0", deed(0, 0, 1, 4, 1, 9), 0);
        due("by law even", deed(5, 0, 2, 5, 1, 9), 1);
        due("by law even", deed(5, 0, 2, 5, 1, 4), -1);
        due("by law even", deed(5, 0, 2, 5, 0, 9), 0);
        due("by law in 0", deed(5, 0, 0, 5, 1, 9), 1);
        due("by law odd", deed(5, 0, 1, 5, 1, 9), 0);
        due("by law odd", deed(5, 0, 99, 5, 1, 0), 0);
        PassStones x = new PassStones();
        x.wall(30);
        x.passer(0, 1, 1, 0);
        x.passer(0, 3, 1, 0);
        due("what came of it counts", x.does(1), 0);
        due("wrong", x.does(-1), -10);
        due("wrong", x.does(2), -10);
        due("wrong", x.does(BIG), -10);
        due("wrong", x.does(SMALL), -10);
        due("status", x.status(0), 4);
    }

    private static void undoing() {
        promise = "5 undo";
        PassStones x = new PassStones();
        due("none", x.undo(), -3);
        x.passer(5, 0, 0, 0);
        x.passer(9, 0, 0, 0);
        x.odds(1, 1, 2);
        due("one left", x.undo(), 1);
        due("height", x.height(99), 9);
        due("the last one's minute is 5 now", x.passer(5, 0, 0, 0), 1);
        x.chance(9);
        due("odds are as at first", x.part(1), 100);
        x.undo();
        due("none left", x.undo(), 0);
        due("none", x.undo(), -3);
        due("any minute", x.passer(0, 0, 0, 0), 0);
        due("status", x.status(1), 2);
    }

    private static void beasts() {
        promise = "6 beast";
        PassStones x = new PassStones();
        x.passer(4, 0, 0, 0);
        x.passer(4, 4, 0, 0);
        due("wrong", x.beast(-1, 0), -2);
        due("wrong", x.beast(100, 0), -2);
        due("wrong", x.beast(0, -1), -2);
        due("wrong", x.beast(0, 31), -2);
        due("late", x.beast(99, 30), 0);
        due("early", x.beast(3, 9), 1);
        due("that minute", x.beast(4, 7), 2);
        due("that minute", x.beast(4, 6), 3);
        due("full", x.beast(0, 0), -4);
        due("wrong goes first", x.beast(0, 31), -2);
        promise = "13 over";
        due("late", x.over(0), 1);
        due("early", x.over(1), 0);
        due("just", x.over(2), 1);
        due("too high", x.over(3), 0);
        due("wrong", x.over(4), -2);
        due("wrong", x.over(-1), -2);
        due("wrong", new PassStones().over(0), -2);
        due("status", x.status(0), 7);
        due("status", x.status(2), 1);
    }

    private static void oddsOfOne() {
        promise = "7 odds";
        PassStones x = new PassStones();
        due("nobody", x.odds(0, 3, 3), -2);
        x.passer(0, 0, 0, 0);
        due("all take", x.odds(0, 10, 0), 1);
        x.chance(9);
        fraction(x, "all take", 1, 1);
        due("all lay", x.odds(0, 0, 10), 1);
        x.chance(10);
        fraction(x, "all lay", 0, 1);
        due("none", x.odds(0, 0, 0), 1);
        due("together too many", x.odds(0, 6, 5), -2);
        due("too many", x.odds(0, 11, 0), -2);
        due("too many", x.odds(0, 0, 11), -2);
        due("too many", x.odds(0, BIG, BIG), -2);
        due("below 0", x.odds(0, -1, 3), -2);
        due("below 0", x.odds(0, 3, -1), -2);
        due("below 0", x.odds(0, SMALL, 3), -2);
        due("wrong", x.odds(1, 3, 3), -2);
        due("wrong", x.odds(-1, 3, 3), -2);
        x.chance(9);
        fraction(x, "unchanged", 0, 1);
        due("status", x.status(0), 10);
    }

    private static void typing() {
        promise = "8 type";
        PassStones x = new PassStones();
        due("wrong", x.type(0, 0), -2);
        due("wrong", x.type(0, 9), -2);
        due("wrong", x.type(0, -1), -2);
        due("lowest bytes, the highest of them first", x.type(0x7777616c6cL, 4), 4);
        due("more", x.type(0x20353bL, 3), 7);
        due("read", x.read(), 1);
        due("told", x.height(0), 5);
        for (int i = 0; i < 24; i++) x.type(0x2020202020202020L, 8);
        due("199", x.count(4), 199);
        due("full", x.type(0x2020, 2), -4);
        due("wrong goes first", x.type(0, 9), -2);
        due("200", x.type(0x20, 1), 200);
        due("full", x.type(0x20, 1), -4);
        due("read", x.read(), 1);
        promise = "9 clear";
        due("clear", x.clear(), 200);
        due("clear", x.clear(), 0);
        due("count", x.count(4), 0);
        due("status", x.status(0), 4);
        due("status", x.status(2), 2);
    }

    private static void roads() {
        promise = "10 read";
        PassStones x = new PassStones();
        x.passer(9, 0, 0, 0);
        x.odds(0, 1, 1);
        x.chance(9);
        x.image(0);
        due("all items", read(x, " wall 8;passer 3 1 1 7;beast2 8;check 4 05 6;look 3 9 ;  coach 2; "), 6);
        due("passers", x.count(0), 1);
        due("beasts", x.count(1), 1);
        due("checks", x.count(2), 1);
        due("looks", x.count(3), 1);
        due("text stays", x.count(4), 66);
        due("height", x.height(2), 8);
        due("height", x.height(3), 9);
        due("over", x.over(0), 1);
        due("gain", x.hired(0), -3);
        due("done", x.done(), 1);
        due("sure", x.sure(0), 1);
        fraction(x, "stays", 1, 10);
        x.free(0, 0);
        due("coach", x.coach(0), 2);
        x.chance(8);
        fraction(x, "odds are as at first", 7, 10);
        due("empty", read(x, ""), 0);
        due("new", x.height(0), 10);
        due("new", x.count(0) + x.count(1) + x.count(2) + x.count(3), 0);
        due("blanks alone", read(x, "   "), 0);
        due("images stay", x.from(0), 1);
        due("images stay", x.count(0), 1);
        due("later ones count", read(x, "wall 1;wall 2;coach 3;coach 4;"), 4);
        due("height", x.height(0), 2);
        due("low", x.coach(0), 4);
        due("most items", read(x, "wall0;".repeat(33)), 33);
        due("no refusals", x.status(0) + x.status(1) + x.status(2), 0);
    }

    private static void faults() {
        promise = "10 read, faults";
        Object[][] told = {
            {"wal", 0}, {"tall 3;", 0}, {"look 1 2;book 1 2;", 9}, {"least 1 2;", 0}, {"coacx 1;", 0}, {"walls 3;", 0}, {"  stone;", 2}, {";", 0}, {"3", 0}, {"wall 3;;", 7},
            {"wall", 4}, {"wall ", 5}, {"wall 3", 6}, {"wall 3 ", 7}, {"wall ;", 5}, {"wall 3 4;", 7},
            {"wall 123;", 5}, {"wall123;", 4}, {"wall 1234", 5}, {"123;", 0}, {"wall 12 3;", 8},
            {"wall wall;", 5}, {"wall 3 wall 4;", 7}, {"Wall 3;", 0}, {"wall\t3;", 4}, {"wall -1;", 5},
            {"passer 1 2 1;", 12}, {"passer 1 2 1 3 4;", 15}, {"passer 1 2 1 3", 14}, {"beast 1;", 7},
            {"check 1 2;", 9}, {"look 1;", 6}, {"look 1 2 3;", 9}, {"coach;", 5}, {"coach 1 1;", 8},
            {"wall 3;wall 31;wall", 19}, {"wall 31;x", 8}, {"wall 3;\u00e9", 7}, {"wall 3;\u0000", 7},
            {"wall 3,", 6}, {"wallpasser 3;", 0}, {"wall 1a;", 6}, {"wall 3;passer 1 0 0 0 wall 3;", 22},
        };
        for (Object[] row : told) {
            PassStones x = new PassStones();
            x.wall(7);
            due((String) row[0], read(x, (String) row[0]), -10 - (Integer) row[1]);
            due("nothing changes", x.height(0), 7);
            due("not counted", x.status(0) + x.status(1) + x.status(2), 0);
        }
        PassStones x = new PassStones();
        write(x, "wall 0;".repeat(28));
        x.type(0x77616c6cL, 4);
        due("at the end of 200", x.read(), -210);
    }

    private static void refusedItems() {
        promise = "10 read, refused";
        Object[][] told = {
            {"wall 31;", 0}, {"coach 0;coach 31;", 1}, {"passer 0 6 0 0;", 0}, {"passer 0 0 2 0;", 0},
            {"passer 0 0 0 31;", 0}, {"passer 5 0 0 0;passer 4 0 0 0;", 1}, {"beast 0 31;", 0},
            {"wall 1;beast 1 1;check 1 5 4;", 2}, {"check 1 1 1;check 1 1 1;", 1}, {"check 1 1 31;", 0},
            {"look 2 2;look 1 2;", 1}, {"look 2 31;wall 99;", 0}, {"beast 1 1;".repeat(5), 4},
            {"look 1 1;".repeat(7), 6}, {"passer 0 0 0 0;".repeat(13), 12},
            {"check 1 1 1;check 2 1 1;check 3 1 1;check 4 1 1;check 5 1 1;check 6 1 1;", 5},
        };
        for (Object[] row : told) {
            PassStones x = new PassStones();
            x.wall(7);
            x.passer(50, 0, 0, 0);
            due((String) row[0], read(x, (String) row[0]), -1000 - (Integer) row[1]);
            due("nothing changes", x.height(0) + 100 * x.count(0) + 1000 * (x.count(1) + x.count(2) + x.count(3)), 107);
            due("not counted", x.status(0) + x.status(1) + x.status(2), 0);
        }
    }

    private static void heights() {
        promise = "11 height";
        PassStones x = new PassStones();
        x.passer(0, 0, 0, 0);
        x.passer(5, 0, 0, 0);
        x.passer(5, 0, 0, 0);
        x.passer(99, 1, 1, 0);
        due("0", x.height(0), 9);
        due("4", x.height(4), 9);
        due("5", x.height(5), 7);
        due("98", x.height(98), 7);
        due("99", x.height(99), 8);
        for (int m : new int[] {-1, 100, BIG, SMALL}) due("wrong", x.height(m), -2);
        due("status", x.status(0), 4);
    }

    private static void coachThrough() {
        promise = "14 through";
        PassStones x = new PassStones();
        due("never", x.through(), -1);
        x.coach(9);
        due("never", x.through(), -1);
        x.coach(10);
        due("ahead of all", x.through(), -5);
        x.coach(8);
        x.passer(0, 1, 1, 0);
        x.passer(1, 4, 0, 0);
        x.passer(1, 0, 0, 0);
        x.passer(1, 1, 1, 0);
        due("the first", x.through(), 2);
        x.coach(9);
        due("the first", x.through(), 1);
        x.coach(7);
        due("never", x.through(), -1);
        due("not refused", x.status(0) + x.status(1), 0);
    }

    private static void twoWalls() {
        promise = "15 behind";
        PassStones x = new PassStones();
        due("nobody", x.behind(4, 0), 10);
        due("nobody", x.behind(4, 1), 4);
        x.passer(0, 1, 1, 0);
        due("nothing to take there", x.behind(0, 0), 10);
        due("nothing to take there", x.behind(0, 1), 0);
        due("taken there", x.behind(1, 0), 11);
        due("taken there", x.behind(1, 1), 0);
        x.passer(0, 3, 0, 0);
        due("cross looks at what came of it", x.behind(0, 0), 10);
        due("cross looks at what came of it", x.behind(1, 0), 10);
        due("cross looks at what came of it", x.behind(1, 1), 1);
        x.passer(0, 4, 0, 0);
        due("a cart lays two", x.behind(0, 1), 2);
        due("30 at most", x.behind(30, 1), 30);
        due("30 at most", x.behind(29, 1), 30);
        due("as told without a second one", x.height(0), 8);
        PassStones y = new PassStones();
        y.wall(30);
        y.passer(0, 1, 1, 0);
        due("nothing comes of it at 30", y.behind(5, 0), 30);
        due("nothing comes of it at 30", y.behind(5, 1), 5);
        due("wrong", x.behind(-1, 0), -2);
        due("wrong", x.behind(31, 0), -2);
        due("wrong", x.behind(0, -1), -2);
        due("wrong", x.behind(0, 2), -2);
        due("status", x.status(0), 4);
    }

    private static void firstOfMay() {
        promise = "16 may";
        PassStones x = new PassStones();
        x.passer(3, 0, 0, 0);
        x.passer(3, 0, 0, 0);
        x.passer(9, 0, 0, 0);
        due("nobody passed", x.may(2, 3, 0), -1);
        due("nobody passed", x.may(2, 3, 1), 7);
        due("too many", x.may(3, 0, 0), 1);
        due("too many", x.may(3, 0, 1), 8);
        due("lacks", x.may(9, 30, 0), 2);
        due("lacks", x.may(9, 30, 1), 23);
        due("nothing lacks", x.may(8, 8, 0), -1);
        due("nothing lacks", x.may(8, 8, 1), 0);
        due("wrong", x.may(-1, 0, 0), -2);
        due("wrong", x.may(100, 0, 0), -2);
        due("wrong", x.may(0, -1, 0), -2);
        due("wrong", x.may(0, 31, 0), -2);
        due("wrong", x.may(0, 0, -1), -2);
        due("wrong", x.may(0, 0, 2), -2);
        due("status", x.status(0), 6);
    }

    private static void advices() {
        promise = "17 advice";
        PassStones x = new PassStones();
        x.wall(5);
        x.passer(2, 0, 0, 0);
        x.passer(4, 3, 1, 0);
        x.passer(6, 2, 1, 5);
        due("leave it", x.advice(0, 2, 5), 0);
        due("take", x.advice(0, 2, 0), -1);
        due("lay, though he brings none", x.advice(0, 2, 9), 1);
        due("all alike: cross does the other way about", x.advice(0, 4, 9), 0);
        due("the last one's", x.advice(2, 99, 30), 1);
        due("in a minute behind which others pass", x.advice(1, 4, 3), -1);
        due("the next lays one on what he leaves", x.advice(1, 6, 4), -1);
        PassStones y = new PassStones();
        y.wall(30);
        y.passer(0, 0, 0, 0);
        due("no more at 30", y.advice(0, 0, 30), 0);
        y.wall(0);
        due("no less at 0", y.advice(0, 0, 0), 0);
        PassStones z = new PassStones();
        z.wall(6);
        z.passer(0, 0, 0, 0);
        z.passer(0, 3, 0, 0);
        z.passer(0, 2, 1, 6);
        due("-1 is 6, 0 is 6, 1 is 6", z.advice(0, 0, 9), 0);
        z.undo();
        due("-1 is 5, 0 is 6, 1 is 6: nearest to 5", z.advice(0, 0, 5), -1);
        due("0 goes ahead of 1", z.advice(0, 0, 9), 0);
        due("a minute ahead of his", x.advice(2, 5, 0), -10);
        due("his minute", x.advice(2, 6, 0), -1);
        due("wrong", x.advice(3, 99, 0), -10);
        due("wrong", x.advice(-1, 99, 0), -10);
        due("wrong", x.advice(0, 100, 0), -10);
        due("wrong", x.advice(0, 9, 31), -10);
        due("wrong", x.advice(0, 9, -1), -10);
        due("status", x.status(0), 6);
    }

    private static void checks() {
        promise = "18 check";
        PassStones x = new PassStones();
        due("wrong", x.check(-1, 0, 0), -2);
        due("wrong", x.check(100, 0, 0), -2);
        due("wrong", x.check(0, -1, 0), -2);
        due("wrong", x.check(0, 0, 31), -2);
        due("wrong", x.check(0, 31, 31), -2);
        due("a above b", x.check(0, 5, 4), -2);
        due("first", x.check(0, 0, 30), 0);
        due("no later", x.check(0, 0, 30), -2);
        for (int i = 1; i < 5; i++) due("more", x.check(i + 10, 3, 3), i);
        due("full", x.check(99, 0, 0), -4);
        due("wrong goes first", x.check(14, 0, 0), -2);
        due("status", x.status(0), 8);
        due("status", x.status(2), 1);
        promise = "23 forget";
        due("forget", x.forget(), 1);
        due("no checks", x.count(2), 0);
        due("any minute", x.check(0, 0, 0), 0);
    }

    private static void hiring() {
        promise = "19 hired";
        PassStones x = new PassStones();
        due("without checks", x.hired(-1), 0);
        due("wrong", x.hired(0), -100);
        x.check(5, 12, 14);
        due("two lay", x.hired(-1), 2);
        due("two lay", x.hired(0), 2);
        x.check(6, 3, 9);
        due("then three take", x.hired(-1), 5);
        due("then three take", x.hired(1), -3);
        x.check(7, 13, 30);
        due("and four lay", x.hired(-1), 9);
        due("and four lay", x.hired(2), 4);
        due("wrong", x.hired(3), -100);
        due("wrong", x.hired(-2), -100);
        due("wrong", x.hired(BIG), -100);
        due("status", x.status(0), 4);
        PassStones y = new PassStones();
        y.check(1, 0, 30);
        y.check(2, 12, 30);
        due("of like ones the least gain 0", y.hired(0), 0);
        due("of like ones the least gain 0", y.hired(1), 2);
        PassStones w = new PassStones();
        w.check(1, 0, 30);
        w.check(2, 0, 8);
        due("of like ones the least gain 0", w.hired(0), -2);
        due("of like ones the least gain 0", w.hired(1), 0);
        wisherBetweenChecks();
        crossBetweenChecks();
    }

    /** A wisher behind the first check turns back what one too many is: looking on pays. */
    private static void wisherBetweenChecks() {
        PassStones x = new PassStones();
        x.wall(5);
        x.check(1, 0, 30);
        x.passer(2, 4, 0, 0);
        x.passer(2, 2, 0, 3);
        x.check(2, 3, 3);
        due("nobody is needed", x.hired(-1), 0);
        x.passer(3, 0, 0, 0);
        x.check(3, 0, 1);
        due("one takes one off", x.hired(-1), 1);
        due("not here", x.hired(0), 0);
        due("not here", x.hired(1), 0);
        due("here", x.hired(2), -1);
    }

    /** Men take off and lay on between two passers, and a cross one does not look at them. */
    private static void crossBetweenChecks() {
        PassStones x = new PassStones();
        x.passer(1, 0, 0, 0);
        x.check(1, 12, 12);
        x.passer(2, 3, 1, 0);
        x.check(2, 13, 13);
        due("behind a taker he lays", x.hired(-1), 3);
        due("behind a taker he lays", x.hired(0), 3);
        due("behind a taker he lays", x.hired(1), 0);
        PassStones y = new PassStones();
        y.wall(0);
        y.passer(1, 0, 0, 0);
        y.passer(3, 3, 1, 0);
        y.check(0, 0, 1);
        y.check(3, 1, 1);
        due("with a stone laid early he has one to take", y.hired(-1), 1);
        due("that is no better, so late", y.hired(0), 0);
        due("that is no better, so late", y.hired(1), 1);
    }

    private static void turnsOfAll() {
        promise = "20 turns";
        PassStones x = new PassStones();
        due("nobody", x.turns(-1), 10);
        x.passer(0, 4, 1, 12);
        due("he lays", x.turns(0), 1);
        due("kinds do not matter", x.turns(-1), 11);
        x.passer(0, 1, 0, 8);
        due("it can not be more than 11, nor less than 10 with him", x.turns(-1), 10);
        due("he lays, so that it is 10 behind the other", x.turns(0), 1);
        due("he takes", x.turns(1), -1);
        PassStones y = new PassStones();
        y.wall(30);
        y.passer(0, 0, 1, 30);
        due("no more at 30", y.turns(0), 0);
        y.wall(0);
        y.undo();
        y.passer(0, 0, 0, 0);
        due("no less at 0", y.turns(0), 0);
        y.undo();
        y.passer(0, 0, 0, 20);
        due("he brings none", y.turns(0), 0);
        PassStones z = new PassStones();
        z.passer(0, 0, 1, 0);
        z.passer(0, 0, 1, 10);
        due("of like ones 0: the last one has it his way", z.turns(0), 0);
        due("of like ones 0: the last one has it his way", z.turns(1), 0);
        due("wrong", x.turns(-2), -10);
        due("wrong", x.turns(2), -10);
        due("wrong", x.turns(SMALL), -10);
        due("status", x.status(0), 3);
    }

    private static void treaties() {
        promise = "21 treaty";
        PassStones x = new PassStones();
        due("nobody", x.treaty(), -1);
        x.passer(0, 0, 0, 30);
        due("one", x.treaty(), 30);
        x.passer(0, 0, 0, 4);
        due("of like ones the least", x.treaty(), 4);
        x.passer(0, 0, 0, 9);
        due("three", x.treaty(), 9);
        x.passer(0, 0, 0, 0);
        due("four", x.treaty(), 4);
        due("not refused", x.status(0) + x.status(1), 0);
    }

    private static void looks() {
        promise = "22 look";
        PassStones x = new PassStones();
        due("wrong", x.look(-1, 0), -2);
        due("wrong", x.look(100, 0), -2);
        due("wrong", x.look(0, -1), -2);
        due("wrong", x.look(0, 31), -2);
        due("first", x.look(5, 10), 0);
        due("the same minute", x.look(5, 10), 1);
        due("ahead of the last", x.look(4, 10), -2);
        for (int i = 2; i < 6; i++) due("more", x.look(99, 10), i);
        due("full", x.look(99, 10), -4);
        due("wrong goes first", x.look(98, 10), -2);
        due("status", x.status(0), 6);
        due("status", x.status(2), 1);
        promise = "23 forget";
        x.passer(0, 0, 0, 0);
        x.beast(0, 0);
        due("forget", x.forget(), 1);
        due("no looks", x.count(3), 0);
        due("any minute", x.look(0, 0), 0);
        due("others stay", x.count(0) + x.count(1), 2);
    }

    private static void rows() {
        promise = "24 done";
        PassStones x = new PassStones();
        due("nobody", x.done(), 1);
        x.passer(1, 0, 0, 0);
        x.passer(2, 0, 0, 0);
        x.passer(2, 0, 0, 0);
        due("free", x.done(), 27);
        x.wall(0);
        due("never below 0", x.done(), 13);
        x.wall(30);
        due("never above 30", x.done(), 13);
        x.wall(10);
        x.look(0, 10);
        due("ahead of all", x.done(), 27);
        x.look(2, 12);
        due("two of three lay", x.done(), 3);
        promise = "25 sure";
        due("not sure", x.sure(0), -5);
        x.look(99, 12);
        x.wall(9);
        due("no row fits", x.sure(0), -20);
        due("no row", x.done(), 0);
        x.forget();
        x.look(1, 8);
        x.look(2, 10);
        due("he took", x.sure(0), -1);
        due("he laid", x.sure(1), 1);
        due("he laid", x.sure(2), 1);
        due("one row", x.done(), 1);
        x.forget();
        x.look(1, 9);
        due("he left it", x.sure(0), 0);
        due("not sure", x.sure(1), -5);
        due("wrong", x.sure(-1), -10);
        due("wrong", x.sure(3), -10);
        due("status", x.status(0), 2);
        due("status", x.status(1), 1);
        PassStones y = new PassStones();
        y.wall(15);
        for (int i = 0; i < 12; i++) y.passer(0, 0, 0, 0);
        due("all of twelve", y.done(), 531441);
        y.look(0, 27);
        due("all laid", y.sure(11), 1);
        y.look(0, 26);
        due("wrong goes first", y.sure(12), -10);
        due("no row fits", y.sure(11), -20);
    }

    private static void chances() {
        promise = "26 chance";
        PassStones x = new PassStones();
        x.wall(1);
        x.coach(0);
        x.passer(0, 1, 1, 0);
        x.passer(0, 1, 1, 0);
        x.odds(0, 4, 5);
        due("chance", x.chance(0), 1);
        fraction(x, "28 + 3 of 100", 31, 100);
        x.chance(1);
        fraction(x, "40 + 7 + 15 of 100", 31, 50);
        x.chance(30);
        fraction(x, "all", 1, 1);
        due("wrong", x.chance(-1), -2);
        due("wrong", x.chance(31), -2);
        fraction(x, "unchanged", 1, 1);
        promise = "27 free";
        due("free", x.free(-1, 0), 1);
        fraction(x, "ahead of all", 0, 1);
        x.free(0, 0);
        fraction(x, "the first", 2, 5);
        x.free(1, 0);
        fraction(x, "now", 3, 100);
        x.free(1, 1);
        fraction(x, "till", 43, 100);
        x.coach(1);
        x.free(-1, 1);
        fraction(x, "ahead of all", 1, 1);
        x.free(0, 0);
        fraction(x, "through long since", 0, 1);
        x.free(1, 1);
        fraction(x, "by then", 1, 1);
        x.wall(30);
        x.coach(30);
        x.free(0, 0);
        fraction(x, "30 is no higher than 30", 0, 1);
        x.free(0, 1);
        fraction(x, "30 is no higher than 30", 1, 1);
        due("wrong", x.free(2, 0), -2);
        due("wrong", x.free(-2, 0), -2);
        due("wrong", x.free(0, 2), -2);
        due("wrong", x.free(0, -1), -2);
        promise = "28 part";
        due("wrong", x.part(-1), -2);
        due("wrong", x.part(2), -2);
        due("status", x.status(0), 8);
        PassStones y = new PassStones();
        y.wall(12);
        for (int i = 0; i < 12; i++) y.passer(0, 0, 0, 0);
        y.chance(0);
        fraction(y, "all of twelve take", 531441, 1000000000000L);
        y.wall(30);
        y.odds(0, 0, 10);
        y.chance(18);
        fraction(y, "at 30 nothing is laid: eleven take to 19", 0, 1);
        y.chance(19);
        fraction(y, "at 30 nothing is laid: eleven take to 19", 177147, 100000000000L);
    }

    private static void images() {
        promise = "29 image";
        PassStones x = new PassStones();
        due("wrong", x.image(-1), -2);
        due("wrong", x.image(2), -2);
        x.wall(4);
        x.coach(3);
        x.passer(1, 2, 1, 9);
        x.odds(0, 1, 8);
        x.beast(1, 5);
        x.check(1, 2, 3);
        x.look(1, 5);
        x.chance(5);
        long before = x.digest();
        due("image", x.image(1), 1);
        x.odds(0, 2, 2);
        x.undo();
        x.forget();
        x.wall(1);
        x.coach(1);
        promise = "30 from";
        due("none", x.from(0), -3);
        due("from", x.from(1), 1);
        due("all as it was", x.digest(), before);
        x.odds(0, 5, 5);
        x.beast(2, 2);
        due("the image stays as it is", x.from(1), 1);
        due("all as it was", x.digest(), before);
        x.chance(4);
        x.type(32, 1);
        due("from", x.from(1), 1);
        due("the text stays", x.count(4), 1);
        fraction(x, "stays", 1, 5);
        x.wall(7);
        due("another one", x.image(0), 1);
        x.wall(8);
        due("anew", x.image(1), 1);
        x.from(0);
        due("of its own", x.height(0), 7);
        x.from(1);
        due("of its own", x.height(0), 8);
        due("wrong", x.from(2), -2);
        due("wrong", x.from(-1), -2);
        due("status stays", x.status(0), 4);
        due("status stays", x.status(1), 1);
    }

    private static void statuses() {
        promise = "31 status";
        PassStones x = new PassStones();
        due("another", x.status(3), -1);
        due("another", x.status(-1), -1);
        due("counts as bad", x.status(0), 2);
        due("no", x.status(1), 0);
        x.undo();
        due("no", x.status(1), 1);
        for (int i = 0; i < 6; i++) x.beast(0, 0);
        due("full", x.status(2), 2);
        promise = "32 count";
        due("wrong", x.count(5), -2);
        due("wrong", x.count(-1), -2);
        due("bad", x.status(0), 4);
        x.passer(0, 4, 0, 0);
        due("-2 that is a deed", x.does(0), -2);
        x.check(0, 6, 6);
        due("-2 that is a gain", x.hired(0), -2);
        x.forget();
        x.check(0, 4, 4);
        due("-4 that is a gain", x.hired(0), -4);
        due("counts for nothing", x.status(0), 4);
        due("counts for nothing", x.status(2), 2);
    }

    private static void digests() {
        promise = "33 digest";
        PassStones x = new PassStones();
        due("new", x.digest(), mix(0, 0, 0, 0, 0, 10, 0, 0, 1));
        x.passer(3, 1, 1, 7);
        x.passer(4, 5, 0, 8);
        x.odds(1, 2, 6);
        x.beast(9, 11);
        x.check(12, 13, 14);
        x.check(15, 16, 17);
        x.look(18, 19);
        x.coach(20);
        x.wall(21);
        x.type(1, 2);
        x.chance(21);
        due("all", x.digest(), mix(2, 1, 2, 1, 2, 21, 20, 3, 1, 1, 7, 3, 3, 4, 5, 0, 8, 2, 6, 9, 11,
                12, 13, 14, 15, 16, 17, 18, 19, x.part(0), x.part(1)));
        x.image(7);
        due("without status", x.digest(), x.digest());
    }

    private static long mix(long... vs) {
        long h = 733;
        for (long v : vs) h = 31 * h + v;
        return h;
    }
}
