/** Roads that tests begin with: nothing told yet, something of each sort, and as much as there may be. */
final class Stories {
    /** How many of each sort the story SOME has, and the minutes of the last ones. */
    static final int SOME_PASSERS = 4, SOME_BEASTS = 2, SOME_CHECKS = 2, SOME_LOOKS = 2;
    static final int LAST_PASSER = 30, LAST_CHECK = 25, LAST_LOOK = 26;

    /** The same minutes for the story ALL. */
    static final int ALL_LAST = 40;

    private Stories() { }

    static void nothing(PassStones x) { }

    static void some(PassStones x) {
        x.wall(8);
        x.coach(5);
        x.passer(10, 4, 0, 3);
        x.image(1);
        x.passer(20, 3, 1, 12);
        x.passer(20, 2, 1, 9);
        x.odds(1, 1, 6);
        x.odds(2, 0, 9);
        x.beast(5, 8);
        x.beast(20, 6);
        x.check(15, 7, 9);
        x.look(15, 7);
        x.image(0);
        x.passer(LAST_PASSER, 1, 0, 30);
        x.check(LAST_CHECK, 4, 4);
        x.look(LAST_LOOK, 7);
        x.chance(7);
        write(x, "wall 3;passer 4 2 1 6;");
    }

    /** Its looks fit no row: the last one is higher than anybody can have laid. */
    static void all(PassStones x) {
        x.wall(14);
        x.coach(12);
        for (int i = 0; i < 12; i++) {
            x.passer(Math.min(ALL_LAST, 4 * i), i % 6, i % 2, 2 * i + 1);
            x.odds(i, i % 5, i % 6);
        }
        for (int i = 0; i < 4; i++) x.beast(90 - 20 * i, 9 + i);
        for (int i = 4; i >= 0; i--) x.check(ALL_LAST - 10 * i, 10 + i, 12 + i);
        for (int i = 5; i >= 0; i--) x.look(ALL_LAST - 8 * i, i == 0 ? 30 : 14 + i % 2);
        x.image(0);
        x.image(1);
        x.free(5, 1);
        write(x, "wall 6;passer 1 0 0 5;" + " ".repeat(178));
    }

    /** A text behind what THE TEXT has, eight bytes a call. */
    static void write(PassStones x, String text) {
        for (int i = 0; i < text.length(); i += 8) {
            int n = Math.min(8, text.length() - i);
            long v = 0;
            for (int k = 0; k < n; k++) v = v << 8 | text.charAt(i + k);
            x.type(v, n);
        }
    }

    static int read(PassStones x, String text) {
        x.clear();
        write(x, text);
        return x.read();
    }
}
