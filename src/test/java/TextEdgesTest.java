import java.util.ArrayList;
import java.util.Arrays;
import java.util.List;

/** The sentences of the terms, part 3, about THE TEXT that name an edge, and what type, clear and read say of them. */
public final class TextEdgesTest {
    private static final String[] ITEMS = {"wall 8;", "passer 3 1 1 7;", "beast 2 8;", "check 4 5 6;", "look 3 9;", "coach 2;"};
    private static String sentence = "";

    public static void main(String[] args) {
        lowestBytes();
        twoHundredBytes();
        emptied();
        emptyText();
        endsTooEarly();
        longestTexts();
        wordsThatAreNone();
        wrongTokens();
        firstBytes();
        bytesBehindWord();
        bytesBehindFigure();
        bytesBehindTwoFigures();
        bytesBehindItem();
        thirdFigures();
        blanksBetween();
        faultsFirst();
        readOnceMore();
        toldAnew();
        itemsAtEdges();
        refusedItems();
        fullItems();
        mostItems();
        Due.end();
    }

    private static void says(String words) {
        sentence = words;
    }

    private static void due(String call, long got, long want) {
        Due.is('"' + sentence + "\": " + call, got, want);
    }

    private static void reads(String text, int answer) {
        due("read " + text, Stories.read(new PassStones(), text), answer);
    }

    private static void fault(String text, int place) {
        reads(text, -10 - place);
    }

    private static Twins.Story typed(String text) {
        return x -> {
            Stories.some(x);
            x.clear();
            Stories.write(x, text);
        };
    }

    // ---- bytes

    private static void lowestBytes() {
        says("The lowest n (1 .. 8) bytes of v, the highest of them first");
        PassStones x = new PassStones();
        due("eight", x.type(0x77616c6c2033303bL, 8), 8);
        due("wall 30;", x.read(), 1);
        due("wall 30;", x.height(0), 30);
        x.clear();
        due("seven, the highest one is left", x.type(0x7777616c6c20393bL, 7), 7);
        due("wall 9;", x.read(), 1);
        due("wall 9;", x.height(0), 9);
        x.clear();
        due("one, below 0", x.type(-1, 1), 1);
        due("255 begins none", x.read(), -10);
        x.clear();
        due("eight, below 0", x.type(Long.MIN_VALUE, 8), 8);
        due("128 begins none", x.read(), -10);
        x.clear();
        for (char c : "wall 7;".toCharArray()) x.type(0xfffffffffffff000L << 8 | c, 1);
        due("wall 7;, each with other bytes above", x.read(), 1);
        due("wall 7;", x.height(0), 7);
        due("none is refused", x.status(0) + x.status(2), 0);
        Twins.refused("0 bytes", Stories::some, y -> y.type(65, 0), -2, Twins.BAD);
        Twins.refused("9 bytes", Stories::some, y -> y.type(65, 9), -2, Twins.BAD);
    }

    private static void twoHundredBytes() {
        says("a TEXT (200 bytes at most)");
        for (int n = 1; n <= 8; n++) {
            int bytes = n;
            Twins.Story room = x -> Stories.write(x, " ".repeat(200 - bytes));
            Twins.Story less = x -> Stories.write(x, " ".repeat(201 - bytes));
            Twins.taken("the last " + n, room, x -> x.type(0x2020202020202020L, bytes), 200);
            Twins.refused("one too many of " + n, less, x -> x.type(0x2020202020202020L, bytes), -4, Twins.FULL);
        }
        PassStones x = new PassStones();
        Stories.write(x, " ".repeat(200));
        due("200", x.count(4), 200);
        due("FULL", x.type(32, 1), -4);
        due("BAD goes first", x.type(32, 9), -2);
        due("BAD goes first", x.type(32, 0), -2);
        due("200 still", x.count(4), 200);
        due("read", x.read(), 0);
        due("FULL", x.status(2), 1);
        due("BAD", x.status(0), 2);
        due("clear", x.clear(), 200);
        due("there is room again", x.type(32, 8), 8);
    }

    private static void emptied() {
        says("THE TEXT is empty: how many it had");
        PassStones x = new PassStones();
        due("none", x.clear(), 0);
        due("not refused", x.status(0) + x.status(1) + x.status(2), 0);
        x.type(65, 1);
        due("one", x.clear(), 1);
        due("none now", x.count(4), 0);
        due("none now", x.clear(), 0);
        due("nothing is left of it", x.read(), 0);
        PassStones y = Twins.told(Stories::some);
        int high = y.height(99);
        y.clear();
        due("the road stays", y.height(99), high);
    }

    // ---- faults

    private static void emptyText() {
        says("an empty one: none");
        reads("", 0);
        PassStones x = Twins.told(Stories::all);
        due("over a full road", Stories.read(x, ""), 0);
        for (int what = 0; what <= 4; what++) due("none of " + what, x.count(what), 0);
        due("10 at first", x.wall(10), 10);
        due("LOW 0", x.coach(0), 0);
        reads(" ", 0);
        reads(" ".repeat(200), 0);
    }

    private static void endsTooEarly() {
        says("the TEXT's length, if it ends too early");
        for (String ahead : new String[] {"", "coach 1;", "  "}) {
            int items = ahead.indexOf(';') < 0 ? 0 : 1;
            for (String item : ITEMS) {
                int word = item.indexOf(' ');
                for (int n = 0; n <= item.length(); n++) {
                    String text = ahead + item.substring(0, n);
                    if (n == 0) reads(text, items);
                    else if (n < word) fault(text, ahead.length());
                    else if (n < item.length()) fault(text, text.length());
                    else reads(text, items + 1);
                    if (n >= word && n < item.length()) fault(text + "   ", text.length() + 3);
                }
            }
        }
    }

    private static void longestTexts() {
        says("FAULT in a TEXT of 200 bytes");
        fault(" ".repeat(196) + "wall", 200);
        fault(" ".repeat(195) + "wall ", 200);
        fault(" ".repeat(194) + "wall 5", 200);
        fault(" ".repeat(199) + "w", 199);
        fault(" ".repeat(199) + ";", 199);
        fault("a".repeat(200), 0);
        fault("1".repeat(200), 0);
        fault("wall " + "1".repeat(195), 5);
        fault(";".repeat(200), 0);
        reads(" ".repeat(193) + "wall 5;", 1);
        reads("wall" + " ".repeat(194) + "5;", 1);
        Twins.unchanged("at the end of 200", typed("wall 5;" + " ".repeat(189) + "wall"), PassStones::read, -210);
        Twins.unchanged("the last byte", typed("wall 5;" + " ".repeat(192) + "1"), PassStones::read, -209);
    }

    private static void wordsThatAreNone() {
        says("a word that is none");
        for (String item : ITEMS) {
            String word = item.substring(0, item.indexOf(' '));
            String rest = item.substring(word.length());
            fault(word.substring(1) + rest, 0);
            fault(word.substring(0, word.length() - 1) + rest, 0);
            fault("a" + word + rest, 0);
            fault(word + "a" + rest, 0);
            fault(word + word + rest, 0);
            for (int i = 0; i < word.length(); i++) {
                fault(word.substring(0, i) + 'q' + word.substring(i + 1) + rest, 0);
                if (i > 0) fault(word.substring(0, i) + " " + word.substring(i) + rest, 0);
            }
        }
        fault("a;", 0);
        fault("z 1;", 0);
        fault("wall 1;zz 1;", 7);
        fault("odds 0 1 1;", 0);
        fault("undo;", 0);
    }

    private static void wrongTokens() {
        says("the first byte of the first TOKEN that can not stand there");
        for (String item : ITEMS) {
            List<String> tokens = new ArrayList<>(Arrays.asList(item.replace(";", " ;").split(" ")));
            for (int at = 0; at < tokens.size(); at++) {
                for (String wrong : new String[] {"wall", "look", "zz", "q", "5", "55", "555", ";", "A", "-", ".", "\t", "\u00ff", "\u0000"}) {
                    if (fits(wrong, at, tokens.size())) continue;
                    tokenAt(tokens, at, wrong);
                }
            }
        }
    }

    private static boolean fits(String token, int at, int size) {
        if (at == 0) return token.equals("wall") || token.equals("look");
        if (at == size - 1) return token.equals(";");
        return token.equals("5") || token.equals("55");
    }

    private static void tokenAt(List<String> tokens, int at, String wrong) {
        String ahead = String.join(" ", tokens.subList(0, at)) + (at == 0 ? "" : " ");
        String rest = String.join(" ", tokens.subList(at, tokens.size()));
        fault(ahead + wrong, ahead.length());
        fault(ahead + wrong + " " + rest, ahead.length());
        fault("coach 1;" + ahead + wrong + " " + rest, 8 + ahead.length());
        fault("  " + ahead + " " + wrong + ";", 3 + ahead.length());
    }

    private static boolean isLetter(int b) {
        return b >= 'a' && b <= 'z';
    }

    private static boolean isFigure(int b) {
        return b >= '0' && b <= '9';
    }

    private static void firstBytes() {
        says("a byte that begins none, too: the first byte");
        for (int b = 0; b < 256; b++) reads("" + (char) b, b == ' ' ? 0 : -10);
    }

    private static void bytesBehindWord() {
        says("a byte that begins none, too: behind a word");
        for (int b = 0; b < 256; b++) {
            fault("wall" + (char) b, isLetter(b) ? 0 : isFigure(b) || b == ' ' ? 5 : 4);
        }
    }

    private static void bytesBehindFigure() {
        says("figures (1 or 2 are one number): behind one");
        for (int b = 0; b < 256; b++) {
            reads("wall 2" + (char) b, b == ';' ? 1 : isFigure(b) || b == ' ' ? -17 : -16);
        }
    }

    private static void bytesBehindTwoFigures() {
        says("figures (1 or 2 are one number): behind two");
        for (int b = 0; b < 256; b++) {
            reads("wall 20" + (char) b, b == ';' ? 1 : isFigure(b) ? -15 : b == ' ' ? -18 : -17);
        }
    }

    private static void bytesBehindItem() {
        says("ITEMS, each ended by ;");
        for (int b = 0; b < 256; b++) reads("wall 2;" + (char) b, b == ' ' ? 1 : -17);
    }

    private static void thirdFigures() {
        says("a third figure's number");
        fault("wall 100;", 5);
        fault("wall 000;", 5);
        fault("wall 007;", 5);
        fault("wall 1000", 5);
        fault("wall123", 4);
        fault("passer 1 2 100 3;", 11);
        fault("passer 1 2 1 300;", 13);
        fault("look 100 1;", 5);
        fault("123", 0);
        fault("wall 1 234;", 7);
        reads("wall 30;", 1);
        reads("wall 03;", 1);
        reads("wall 00;", 1);
        PassStones x = new PassStones();
        Stories.read(x, "wall 07;coach 10;");
        due("07 is 7", x.height(0), 7);
        due("10 is ten", x.coach(0), 10);
    }

    private static void blanksBetween() {
        says("blanks (32) between");
        reads("wall8;", 1);
        reads("  wall  8  ;  ", 1);
        reads("wall 8;coach 2;", 2);
        reads("wall 8 ;coach 2 ;", 2);
        fault("wall 3 0;", 7);
        fault("passer 31 1 7;", 13);
        fault("wa ll 8;", 0);
        reads("passer3 1 1 7;", 1);
        fault("wall\n8;", 4);
        fault("wall\u00a08;", 4);
        fault("wall 8\r;", 6);
    }

    private static void faultsFirst() {
        says("A ROAD without a FAULT is told anew");
        fault("wall 31;wall", 12);
        fault("wall 31;x", 8);
        fault("wall 31;wall 31;;", 16);
        fault("beast 0 0;".repeat(5) + "beast", 55);
        Twins.unchanged("a fault behind good items", typed("wall 3;coach 4;passer 1 1 1;"), PassStones::read, -37);
        Twins.unchanged("a fault behind a refused item", typed("wall 31;x"), PassStones::read, -18);
        Twins.unchanged("a fault at once", typed("x"), PassStones::read, -10);
        Twins.unchanged("too early", typed("wall 3"), PassStones::read, -16);
    }

    private static void readOnceMore() {
        says("told anew by these alone: nothing of an earlier reading is left");
        PassStones x = new PassStones();
        due("all", Stories.read(x, String.join("", ITEMS)), 6);
        due("none", Stories.read(x, ""), 0);
        due("HEIGHT as at first", x.height(99), 10);
        due("LOW as at first", x.coach(0), 0);
        for (int what = 0; what < 4; what++) due("none of " + what, x.count(what), 0);
        due("a refused one", Stories.read(x, String.join("", ITEMS) + "wall 31;"), -1006);
        due("a blank one", Stories.read(x, " "), 0);
        due("HEIGHT as at first", x.height(99), 10);
        due("LOW as at first", x.coach(0), 0);
        for (int what = 0; what < 4; what++) due("none of " + what, x.count(what), 0);
        due("a fault behind all", Stories.read(x, String.join("", ITEMS) + "x"), -10 - 61);
        due("one", Stories.read(x, "look 0 0;"), 1);
        due("one", x.count(0) + x.count(1) + x.count(2) + 10 * x.count(3), 10);
        due("a longer number", Stories.read(x, "wall 255;"), -15);
        due("a shorter text ends ahead of the third figure", Stories.read(x, "wall 25"), -17);
        due("a longer word", Stories.read(x, "walls 5;"), -10);
        due("a shorter text ends ahead of the letter", Stories.read(x, "wall"), -14);
        due("a shorter text ends ahead of the ;", Stories.read(x, "wall 5"), -16);
        due("it is read as often as wished", Stories.read(x, "wall 5;") + x.read() + x.read(), 3);
    }

    // ---- items

    private static void toldAnew() {
        says("told anew by these alone, in their order");
        PassStones x = Twins.told(Stories::some);
        long above = x.part(0);
        long below = x.part(1);
        due("look, beast and check alone", Stories.read(x, "look 0 4;beast 0 9;check 0 1 2;"), 3);
        due("HEIGHT as at first", x.height(99), 10);
        due("LOW as at first", x.coach(0), 0);
        due("no passers", x.count(0), 0);
        due("one beast", x.count(1), 1);
        due("one check", x.count(2), 1);
        due("one look", x.count(3), 1);
        due("THE TEXT stays", x.count(4), 31);
        due("THE FRACTION stays", x.part(0), above);
        due("THE FRACTION stays", x.part(1), below);
        due("STATUS stays", x.status(0) + x.status(1) + x.status(2), 0);
        due("IMAGES stay", x.from(1), 1);
        due("IMAGES stay", x.count(0), 1);
        due("read again", x.read(), 3);
        due("a passer in 0, though one came in 30 ahead of that", Stories.read(x, "passer 0 0 0 0;"), 1);
        PassStones y = Twins.told(Stories::all);
        due("over a full road", Stories.read(y, "passer 0 0 0 0;".repeat(12)), 12);
        y.free(-1, 0);
        PassStones z = new PassStones();
        Stories.write(z, "passer 0 0 0 0;".repeat(12));
        for (int i = 0; i < 12; i++) z.passer(0, 0, 0, 0);
        due("as by calls, odds as at first", y.digest(), z.digest());
        due("the later wall", Stories.read(y, "wall 3;wall 4;") + 10 * y.height(0), 42);
    }

    private static void itemsAtEdges() {
        says("refused (as its call is): the last that are taken");
        reads("wall 0;wall 30;", 2);
        reads("coach 0;coach 30;", 2);
        reads("passer 0 0 0 0;passer 99 5 1 30;passer 99 0 0 0;", 3);
        reads("beast 99 30;beast 0 0;", 2);
        reads("check 0 0 30;check 1 30 30;check 99 0 0;", 3);
        reads("look 0 0;look 0 30;look 99 30;", 3);
    }

    private static void refused(String text, int item) {
        due(text, Stories.read(new PassStones(), text), -1000 - item);
        Twins.unchanged(text, typed(text), PassStones::read, -1000 - item);
    }

    private static void refusedItems() {
        says("the first ITEM (0 on) that is refused (as its call is): nothing changes");
        refused("wall 31;", 0);
        refused("wall 99;", 0);
        refused("wall 30;wall 31;wall 32;", 1);
        refused("coach 31;", 0);
        refused("passer 0 6 0 0;", 0);
        refused("passer 0 5 2 0;", 0);
        refused("passer 0 5 1 31;", 0);
        refused("passer 1 0 0 0;passer 0 0 0 0;", 1);
        refused("beast 0 31;", 0);
        refused("check 0 0 31;", 0);
        refused("check 0 31 31;", 0);
        refused("check 0 1 0;", 0);
        refused("check 5 0 0;check 5 0 0;", 1);
        refused("check 5 0 0;check 4 0 0;", 1);
        refused("look 0 31;", 0);
        refused("look 1 0;look 0 0;", 1);
        refused("wall 5;coach 5;passer 1 0 0 0;beast 1 1;check 1 1 1;look 1 1;wall 40;", 6);
    }

    private static void fullItems() {
        says("ITEMS refused as FULL");
        reads("passer 0 0 0 0;".repeat(12), 12);
        refused("passer 0 0 0 0;".repeat(13), 12);
        reads("beast 0 0;".repeat(4), 4);
        refused("beast 0 0;".repeat(5), 4);
        reads("look 0 0;".repeat(6), 6);
        refused("look 0 0;".repeat(7), 6);
        String five = "check 0 1 1;check 1 1 1;check 2 1 1;check 3 1 1;check 4 1 1;";
        reads(five, 5);
        refused(five + "check 5 1 1;", 5);
        PassStones x = Twins.told(Stories::all);
        due("what the road has does not count", Stories.read(x, five + "beast 0 0;look 0 0;passer 0 0 0 0;"), 8);
    }

    private static void mostItems() {
        says("how many ITEMS");
        reads("wall0;".repeat(33) + "  ", 33);
        fault("wall0;".repeat(33) + "wa", 198);
        refused("wall0;".repeat(32) + "wall31; ", 32);
        PassStones x = new PassStones();
        Stories.read(x, "coach1;".repeat(27) + "coach 29;");
        due("the last one counts", x.coach(0), 29);
    }
}
