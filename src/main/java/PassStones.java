import java.util.Arrays;

/**
 * A wall in stones and those who pass it, a stone lower or higher for each: what comes of it, what one
 * should do, who did what, by odds and by a text. The document's promises are named in README.md.
 */
public final class PassStones {
    public static final int NONE = -1, BAD = -2, NO = -3, FULL = -4;

    private static final int TOP = 30;
    private static final int LEVELS = TOP + 1;
    private static final int LAST_MINUTE = 99;
    private static final int FIRST_HIGH = 10;
    private static final int FIRST_ODDS = 3;
    private static final int ALL_ODDS = 10;
    private static final int MOST_PASSERS = 12;
    private static final int MOST_BEASTS = 4;
    private static final int MOST_CHECKS = 5;
    private static final int MOST_LOOKS = 6;
    private static final int MOST_BYTES = 200;
    private static final int MOST_TYPED = 8;
    private static final int IMAGES = 2;

    // A deed may be -2 and a gain -30, so that these calls say BAD and NO by numbers of their own.
    private static final int BAD_DEED = -10;
    private static final int BAD_GAIN = -100;
    private static final int NO_ROW = -20;
    private static final int AHEAD_OF_ALL = -5;
    private static final int NOT_SURE = -5;
    private static final int BAD_STATUS = -1;
    private static final int FAULT_BASE = -10;
    private static final int ITEM_BASE = -1000;

    // The columns of the rows that a road keeps.
    private static final int MINUTE = 0;
    private static final int KIND = 1;
    private static final int BRINGS = 2;
    private static final int WISH = 3;
    private static final int TAKES = 4;
    private static final int LAYS = 5;
    private static final int JUMP = 1;
    private static final int CHECK_FROM = 1;
    private static final int CHECK_TO = 2;
    private static final int SEEN = 1;

    // A stand is how high the wall is and what the last one did, in one number.
    private static final int DEEDS = 4;
    private static final int LEAST_DEED = -2;
    private static final int STANDS = LEVELS * DEEDS;

    private static final int WALL_ITEM = 0;
    private static final int PASSER_ITEM = 1;
    private static final int BEAST_ITEM = 2;
    private static final int CHECK_ITEM = 3;
    private static final int LOOK_ITEM = 4;
    private static final int COACH_ITEM = 5;
    private static final int ITEM_SORTS = 6;

    private final Taker[] kinds;
    private final Road road;
    private final Road trial;
    private final Road[] images = new Road[IMAGES];
    private final RoadText text = new RoadText();
    private final Hiring hiring = new Hiring();
    private final Spread spread = new Spread();
    private final int[] choices = new int[MOST_PASSERS * LEVELS];
    private final int[] ends = new int[LEVELS];
    private final int[] laterEnds = new int[LEVELS];
    private long above = 0;
    private long below = 1;
    private int badCalls = 0;
    private int noCalls = 0;
    private int fullCalls = 0;

    public PassStones() {
        kinds = new Taker[] {new Taker(), new Layer(), new Wisher(), new Cross(), new Cart(), new ByLaw()};
        road = new Road(kinds);
        trial = new Road(kinds);
    }

    // ---- a road

    public int wall(int h) {
        return counted(road.setHigh(h));
    }

    public int coach(int low) {
        return counted(road.setLow(low));
    }

    public int passer(int minute, int kind, int brings, int wish) {
        return counted(road.addPasser(minute, kind, brings, wish));
    }

    public int undo() {
        if (road.passers.size() == 0) {
            return counted(NO);
        }
        road.passers.dropLast();
        return road.passers.size();
    }

    public int beast(int minute, int jump) {
        return counted(road.addBeast(minute, jump));
    }

    public int odds(int passer, int takes, int lays) {
        if (!road.passers.has(passer) || !within(takes, 0, ALL_ODDS) || !within(lays, 0, ALL_ODDS - takes)) {
            return counted(BAD);
        }
        road.passers.put(passer, TAKES, takes);
        road.passers.put(passer, LAYS, lays);
        return 1;
    }

    public int type(long v, int n) {
        if (!within(n, 1, MOST_TYPED)) {
            return counted(BAD);
        }
        if (text.size() + n > MOST_BYTES) {
            return counted(FULL);
        }
        for (int i = n - 1; i >= 0; i--) {
            text.append((byte) (v >> (8 * i)));
        }
        return text.size();
    }

    public int clear() {
        return text.makeEmpty();
    }

    public int read() {
        int fault = text.findFault();
        if (fault != NONE) {
            return FAULT_BASE - fault;
        }
        trial.makeNew();
        int items = text.itemCount();
        for (int i = 0; i < items; i++) {
            if (tellItem(i) < 0) {
                return ITEM_BASE - i;
            }
        }
        road.become(trial);
        return items;
    }

    // ---- as told

    public int height(int minute) {
        if (!isMinute(minute)) {
            return counted(BAD);
        }
        return road.highIn(minute);
    }

    public int does(int passer) {
        if (!road.passers.has(passer)) {
            return badAs(BAD_DEED);
        }
        return didOf(road.walk(0, passer + 1, road.firstStand()));
    }

    public int over(int beast) {
        if (!road.beasts.has(beast)) {
            return counted(BAD);
        }
        return road.highIn(road.beasts.at(beast, MINUTE)) <= road.beasts.at(beast, JUMP) ? 1 : 0;
    }

    public int through() {
        if (road.high <= road.low) {
            return AHEAD_OF_ALL;
        }
        int stand = road.firstStand();
        for (int i = 0; i < road.passers.size(); i++) {
            stand = road.walk(i, i + 1, stand);
            if (highOf(stand) <= road.low) {
                return i;
            }
        }
        return NONE;
    }

    public int behind(int h, int what) {
        if (!isHigh(h) || !within(what, 0, 1)) {
            return counted(BAD);
        }
        int first = road.high;
        int second = h;
        int did = 0;
        for (int i = 0; i < road.passers.size(); i++) {
            did = road.deed(i, first, did);
            if (did > 0 && second == 0) {
                did = 0;
            }
            first += did;
            second = Math.min(TOP, second - did);
        }
        return what == 0 ? first : second;
    }

    public int may(int minute, int calf, int what) {
        if (!isMinute(minute) || !isHigh(calf) || !within(what, 0, 1)) {
            return counted(BAD);
        }
        int stones = Math.abs(road.highIn(minute) - calf);
        if (what == 1) {
            return stones;
        }
        // The last of none is NONE, just as the number of the last one is one less than how many.
        return stones == 0 ? NONE : road.passedUntil(minute) - 1;
    }

    // ---- what to do

    public int advice(int passer, int minute, int height) {
        if (!road.passers.has(passer) || !isMinute(minute) || !isHigh(height)
                || minute < road.passers.at(passer, MINUTE)) {
            return badAs(BAD_DEED);
        }
        int ahead = highOf(road.walk(0, passer, road.firstStand()));
        int until = road.passedUntil(minute);
        int best = 0;
        int bestFar = farBehind(passer, until, stand(ahead, 0), height);
        for (int deed = -1; deed <= 1; deed += 2) {
            if (isHigh(ahead + deed)) {
                int far = farBehind(passer, until, stand(ahead + deed, deed), height);
                if (far < bestFar) {
                    best = deed;
                    bestFar = far;
                }
            }
        }
        return best;
    }

    public int check(int minute, int a, int b) {
        return counted(road.addCheck(minute, a, b));
    }

    public int hired(int i) {
        if (i != NONE && !road.checks.has(i)) {
            return badAs(BAD_GAIN);
        }
        hiring.weigh(road);
        hiring.follow(road);
        return i == NONE ? hiring.men : hiring.gainAt(i);
    }

    public int turns(int passer) {
        if (passer != NONE && !road.passers.has(passer)) {
            return badAs(BAD_DEED);
        }
        chooseFromTheLast();
        int high = road.high;
        for (int i = 0; i < road.passers.size(); i++) {
            int deed = choiceAt(i, high);
            if (i == passer) {
                return deed;
            }
            high += deed;
        }
        return high;
    }

    public int treaty() {
        if (road.passers.size() == 0) {
            return NONE;
        }
        int best = 0;
        int bestSum = farFromAll(0);
        for (int h = 1; h <= TOP; h++) {
            int sum = farFromAll(h);
            if (sum < bestSum) {
                best = h;
                bestSum = sum;
            }
        }
        return best;
    }

    // ---- who did what, odds

    public int look(int minute, int h) {
        return counted(road.addLook(minute, h));
    }

    public int forget() {
        road.checks.dropAll();
        road.looks.dropAll();
        return 1;
    }

    public int done() {
        return rowsThatFit(NONE, 0);
    }

    public int sure(int passer) {
        if (!road.passers.has(passer)) {
            return badAs(BAD_DEED);
        }
        int found = NO_ROW;
        for (int deed = -1; deed <= 1; deed++) {
            if (rowsThatFit(passer, deed) > 0) {
                found = found == NO_ROW ? deed : NOT_SURE;
            }
        }
        if (found == NO_ROW) {
            noCalls++;
        }
        return found;
    }

    public int chance(int k) {
        if (!isHigh(k)) {
            return counted(BAD);
        }
        spread.startAt(road.high);
        long all = 1;
        for (int i = 0; i < road.passers.size(); i++) {
            passByOdds(i);
            all *= ALL_ODDS;
        }
        setFraction(spread.upTo(k), all);
        return 1;
    }

    public int free(int i, int what) {
        if ((i != NONE && !road.passers.has(i)) || !within(what, 0, 1)) {
            return counted(BAD);
        }
        spread.startAt(road.high);
        long now = spread.takeOutUpTo(road.low);
        long all = 1;
        for (int j = 0; j <= i; j++) {
            passByOdds(j);
            all *= ALL_ODDS;
            now = spread.takeOutUpTo(road.low);
        }
        setFraction(what == 0 ? now : all - spread.upTo(TOP), all);
        return 1;
    }

    // ---- what there is

    public long part(int what) {
        if (!within(what, 0, 1)) {
            return counted(BAD);
        }
        return what == 0 ? above : below;
    }

    public int image(int i) {
        if (!isImage(i)) {
            return counted(BAD);
        }
        if (images[i] == null) {
            images[i] = new Road(kinds);
        }
        images[i].become(road);
        return 1;
    }

    public int from(int i) {
        if (!isImage(i)) {
            return counted(BAD);
        }
        if (images[i] == null) {
            return counted(NO);
        }
        road.become(images[i]);
        return 1;
    }

    public int status(int what) {
        switch (what) {
            case 0:
                return badCalls;
            case 1:
                return noCalls;
            case 2:
                return fullCalls;
            default:
                return badAs(BAD_STATUS);
        }
    }

    public int count(int what) {
        switch (what) {
            case 0:
                return road.passers.size();
            case 1:
                return road.beasts.size();
            case 2:
                return road.checks.size();
            case 3:
                return road.looks.size();
            case 4:
                return text.size();
            default:
                return counted(BAD);
        }
    }

    public long digest() {
        long h = 733;
        h = 31 * h + road.passers.size();
        h = 31 * h + road.beasts.size();
        h = 31 * h + road.checks.size();
        h = 31 * h + road.looks.size();
        h = 31 * h + text.size();
        h = 31 * h + road.high;
        h = 31 * h + road.low;
        h = road.passers.mixedInto(h);
        h = road.beasts.mixedInto(h);
        h = road.checks.mixedInto(h);
        h = road.looks.mixedInto(h);
        h = 31 * h + above;
        return 31 * h + below;
    }

    // ---- what the calls share

    private static boolean within(int v, int least, int most) {
        return v >= least && v <= most;
    }

    private static boolean isHigh(int h) {
        return within(h, 0, TOP);
    }

    private static boolean isMinute(int minute) {
        return within(minute, 0, LAST_MINUTE);
    }

    private boolean isImage(int i) {
        return i >= 0 && i < images.length;
    }

    private static int stand(int high, int did) {
        return high * DEEDS + did - LEAST_DEED;
    }

    private static int highOf(int stand) {
        return stand / DEEDS;
    }

    private static int didOf(int stand) {
        return stand % DEEDS + LEAST_DEED;
    }

    /** Only for answers that are below 0 for no other reason than that the call is refused. */
    private int counted(int answer) {
        if (answer == BAD) {
            badCalls++;
        } else if (answer == NO) {
            noCalls++;
        } else if (answer == FULL) {
            fullCalls++;
        }
        return answer;
    }

    private int badAs(int answer) {
        badCalls++;
        return answer;
    }

    private int tellItem(int item) {
        int first = text.numberOf(item, 0);
        int second = text.numberOf(item, 1);
        int third = text.numberOf(item, 2);
        switch (text.sortOf(item)) {
            case WALL_ITEM:
                return trial.setHigh(first);
            case PASSER_ITEM:
                return trial.addPasser(first, second, third, text.numberOf(item, 3));
            case BEAST_ITEM:
                return trial.addBeast(first, second);
            case CHECK_ITEM:
                return trial.addCheck(first, second, third);
            case LOOK_ITEM:
                return trial.addLook(first, second);
            default:
                return trial.setLow(first);
        }
    }

    /** How far from a wished height it is, when all behind a passer go on from a stand. */
    private int farBehind(int passer, int until, int stand, int height) {
        return Math.abs(highOf(road.walk(passer + 1, until, stand)) - height);
    }

    private int farFromAll(int high) {
        int sum = 0;
        for (int i = 0; i < road.passers.size(); i++) {
            sum += Math.abs(high - road.passers.at(i, WISH));
        }
        return sum;
    }

    private void chooseFromTheLast() {
        for (int h = 0; h <= TOP; h++) {
            laterEnds[h] = h;
        }
        for (int i = Math.min(road.passers.size(), MOST_PASSERS) - 1; i >= 0; i--) {
            for (int h = 0; h <= TOP; h++) {
                int deed = bestDeed(i, h);
                choices[i * LEVELS + h] = deed;
                ends[h] = endFrom(h + deed);
            }
            System.arraycopy(ends, 0, laterEnds, 0, LEVELS);
        }
    }

    private int bestDeed(int passer, int high) {
        int wish = road.passers.at(passer, WISH);
        int best = 0;
        int bestFar = Math.abs(endFrom(high) - wish);
        if (high > 0 && Math.abs(endFrom(high - 1) - wish) < bestFar) {
            best = -1;
            bestFar = Math.abs(endFrom(high - 1) - wish);
        }
        boolean mayLay = road.passers.at(passer, BRINGS) == 1 && high < TOP;
        if (mayLay && Math.abs(endFrom(high + 1) - wish) < bestFar) {
            best = 1;
        }
        return best;
    }

    private int endFrom(int high) {
        return isHigh(high) ? laterEnds[high] : high;
    }

    private int choiceAt(int passer, int high) {
        int place = passer * LEVELS + high;
        return place >= 0 && place < choices.length ? choices[place] : 0;
    }

    /** How many rows fit all looks; with a passer (not NONE): those in which he did the deed. */
    private int rowsThatFit(int passer, int deed) {
        spread.startAt(road.high);
        keepWhatWasSeen(0);
        for (int i = 0; i < road.passers.size(); i++) {
            boolean any = i != passer;
            int takes = any || deed == -1 ? 1 : 0;
            int stays = any || deed == 0 ? 1 : 0;
            int lays = any || deed == 1 ? 1 : 0;
            spread.pass(takes, stays, lays, false);
            keepWhatWasSeen(i + 1);
        }
        return (int) spread.upTo(TOP);
    }

    private void keepWhatWasSeen(int passed) {
        for (int i = 0; i < road.looks.size(); i++) {
            if (road.passedUntil(road.looks.at(i, MINUTE)) == passed) {
                spread.keepOnly(road.looks.at(i, SEEN));
            }
        }
    }

    private void passByOdds(int passer) {
        int takes = road.passers.at(passer, TAKES);
        int lays = road.passers.at(passer, LAYS);
        spread.pass(takes, ALL_ODDS - takes - lays, lays, true);
    }

    private void setFraction(long over, long under) {
        long divisor = commonDivisor(over, under);
        if (divisor > 0) {
            above = over / divisor;
            below = under / divisor;
        }
    }

    private static long commonDivisor(long a, long b) {
        // Twelve figures need fewer than sixty steps.
        for (int i = 0; i < 100 && b != 0; i++) {
            long rest = a % b;
            a = b;
            b = rest;
        }
        return a;
    }

    // ---- the kinds, each under the one told

    private static class Taker {
        int act(int minute, int brings, int wish, int high, int did) {
            return takeOne(high);
        }

        final int takeOne(int high) {
            return high > 0 ? -1 : 0;
        }

        /** Beyond the top a stone is left beside: nothing comes of it. */
        final int layOne(int high) {
            return high < TOP ? 1 : 0;
        }
    }

    private static class Layer extends Taker {
        int act(int minute, int brings, int wish, int high, int did) {
            return brings == 1 ? layOne(high) : super.act(minute, brings, wish, high, did);
        }
    }

    private static class Wisher extends Layer {
        int act(int minute, int brings, int wish, int high, int did) {
            if (high > wish) {
                return takeOne(high);
            }
            return high < wish && brings == 1 ? layOne(high) : 0;
        }
    }

    private static final class Cross extends Taker {
        int act(int minute, int brings, int wish, int high, int did) {
            if (did > 0) {
                return super.act(minute, brings, wish, high, did);
            }
            return did < 0 && brings == 1 ? layOne(high) : 0;
        }
    }

    private static final class Cart extends Taker {
        int act(int minute, int brings, int wish, int high, int did) {
            int first = super.act(minute, brings, wish, high, did);
            return first + super.act(minute, brings, wish, high + first, did);
        }
    }

    private static final class ByLaw extends Wisher {
        int act(int minute, int brings, int wish, int high, int did) {
            return minute % 2 == 0 ? super.act(minute, brings, wish, high, did) : 0;
        }
    }

    /** Rows of numbers up to a limit: passers, beasts, checks and looks are kept alike. */
    private static final class Rows {
        private final int most;
        private final int width;
        private final int[] cells;
        private int size = 0;

        Rows(int most, int width) {
            this.most = Math.max(0, most);
            this.width = Math.max(0, width);
            cells = new int[this.most * this.width];
        }

        int size() {
            return size;
        }

        boolean has(int row) {
            return row >= 0 && row < size;
        }

        boolean isFull() {
            return size >= most;
        }

        int at(int row, int column) {
            int place = row * width + column;
            return place >= 0 && place < cells.length ? cells[place] : 0;
        }

        /** A number of the last row; without rows one that is below all that are told. */
        int lastAt(int column) {
            return size == 0 ? NONE : at(size - 1, column);
        }

        void put(int row, int column, int v) {
            int place = row * width + column;
            if (place >= 0 && place < cells.length) {
                cells[place] = v;
            }
        }

        int open() {
            if (isFull()) {
                return FULL;
            }
            size++;
            return size - 1;
        }

        void dropLast() {
            if (size > 0) {
                size--;
            }
        }

        void dropAll() {
            size = 0;
        }

        void become(Rows other) {
            size = Math.min(other.size, most);
            for (int i = 0; i < cells.length && i < other.cells.length; i++) {
                cells[i] = other.cells[i];
            }
        }

        long mixedInto(long h) {
            long mixed = h;
            int used = Math.min(size * width, cells.length);
            for (int i = 0; i < used; i++) {
                mixed = 31 * mixed + cells[i];
            }
            return mixed;
        }
    }

    /** All that an image keeps: the wall, the coach, and who and what comes when. */
    private static final class Road {
        private final Taker[] kinds;
        private final Rows passers = new Rows(MOST_PASSERS, 6);
        private final Rows beasts = new Rows(MOST_BEASTS, 2);
        private final Rows checks = new Rows(MOST_CHECKS, 3);
        private final Rows looks = new Rows(MOST_LOOKS, 2);
        private int high = FIRST_HIGH;
        private int low = 0;

        Road(Taker[] kinds) {
            this.kinds = kinds;
        }

        void makeNew() {
            high = FIRST_HIGH;
            low = 0;
            passers.dropAll();
            beasts.dropAll();
            checks.dropAll();
            looks.dropAll();
        }

        void become(Road other) {
            high = other.high;
            low = other.low;
            passers.become(other.passers);
            beasts.become(other.beasts);
            checks.become(other.checks);
            looks.become(other.looks);
        }

        int setHigh(int h) {
            if (!isHigh(h)) {
                return BAD;
            }
            int was = high;
            high = h;
            return was;
        }

        int setLow(int h) {
            if (!isHigh(h)) {
                return BAD;
            }
            int was = low;
            low = h;
            return was;
        }

        int addPasser(int minute, int kind, int brings, int wish) {
            boolean inOrder = isMinute(minute) && minute >= passers.lastAt(MINUTE);
            if (!inOrder || !within(kind, 0, kinds.length - 1) || !within(brings, 0, 1) || !isHigh(wish)) {
                return BAD;
            }
            int row = passers.open();
            if (row != FULL) {
                passers.put(row, MINUTE, minute);
                passers.put(row, KIND, kind);
                passers.put(row, BRINGS, brings);
                passers.put(row, WISH, wish);
                passers.put(row, TAKES, FIRST_ODDS);
                passers.put(row, LAYS, FIRST_ODDS);
            }
            return row;
        }

        int addBeast(int minute, int jump) {
            if (!isMinute(minute) || !isHigh(jump)) {
                return BAD;
            }
            int row = beasts.open();
            if (row != FULL) {
                beasts.put(row, MINUTE, minute);
                beasts.put(row, JUMP, jump);
            }
            return row;
        }

        int addCheck(int minute, int a, int b) {
            boolean inOrder = isMinute(minute) && minute > checks.lastAt(MINUTE);
            if (!inOrder || !isHigh(a) || !isHigh(b) || a > b) {
                return BAD;
            }
            int row = checks.open();
            if (row != FULL) {
                checks.put(row, MINUTE, minute);
                checks.put(row, CHECK_FROM, a);
                checks.put(row, CHECK_TO, b);
            }
            return row;
        }

        int addLook(int minute, int h) {
            boolean inOrder = isMinute(minute) && minute >= looks.lastAt(MINUTE);
            if (!inOrder || !isHigh(h)) {
                return BAD;
            }
            int row = looks.open();
            if (row != FULL) {
                looks.put(row, MINUTE, minute);
                looks.put(row, SEEN, h);
            }
            return row;
        }

        int firstStand() {
            return stand(high, 0);
        }

        /** How many have passed until a minute: as minutes never fall, they are the first ones. */
        int passedUntil(int minute) {
            int passed = 0;
            for (int i = 0; i < passers.size(); i++) {
                if (passers.at(i, MINUTE) <= minute) {
                    passed++;
                }
            }
            return passed;
        }

        int highIn(int minute) {
            return highOf(walk(0, passedUntil(minute), firstStand()));
        }

        /** The stand behind the passers from one to ahead of another, as told. */
        int walk(int first, int until, int stand) {
            int at = highOf(stand);
            int did = didOf(stand);
            for (int i = first; i < until; i++) {
                did = deed(i, at, did);
                at += did;
            }
            return stand(at, did);
        }

        int deed(int passer, int at, int did) {
            int kind = passers.at(passer, KIND);
            if (kind < 0 || kind >= kinds.length || kinds[kind] == null) {
                return 0;
            }
            int minute = passers.at(passer, MINUTE);
            return kinds[kind].act(minute, passers.at(passer, BRINGS), passers.at(passer, WISH), at, did);
        }
    }

    /** The fewest men by whom all checks are so, weighed from the last check back. */
    private static final class Hiring {
        // More than all checks together can need.
        private static final int ENDLESS = MOST_CHECKS * LEVELS;

        // For each check and each stand behind the check ahead of it: the fewest men from there on.
        private final int[] fewest = new int[MOST_CHECKS * STANDS];
        private final int[] gains = new int[MOST_CHECKS];
        private int men = 0;
        private int goal = 0;
        private int goalMen = 0;

        void weigh(Road road) {
            for (int i = road.checks.size() - 1; i > 0; i--) {
                int first = passedAhead(road, i);
                int until = passedAhead(road, i + 1);
                // Behind the check ahead of it the wall has only heights that that one allows.
                int from = road.checks.at(i - 1, CHECK_FROM) * DEEDS;
                int to = road.checks.at(i - 1, CHECK_TO) * DEEDS + DEEDS;
                for (int stand = from; stand < to; stand++) {
                    seekGoal(road, i, road.walk(first, until, stand));
                    keep(i, stand, goalMen);
                }
            }
        }

        void follow(Road road) {
            int stand = road.firstStand();
            men = 0;
            for (int i = 0; i < gains.length && i < road.checks.size(); i++) {
                int came = road.walk(passedAhead(road, i), passedAhead(road, i + 1), stand);
                seekGoal(road, i, came);
                gains[i] = goal - highOf(came);
                men += Math.abs(gains[i]);
                stand = stand(goal, didOf(came));
            }
        }

        int gainAt(int i) {
            return i >= 0 && i < gains.length ? gains[i] : 0;
        }

        /** How many have passed when the check ahead of this one is over. */
        private static int passedAhead(Road road, int check) {
            return check <= 0 ? 0 : road.passedUntil(road.checks.at(check - 1, MINUTE));
        }

        /** The height at a check by which the fewest go on: of like ones the lowest, the least gain. */
        private void seekGoal(Road road, int check, int came) {
            int high = highOf(came);
            int did = didOf(came);
            int to = road.checks.at(check, CHECK_TO);
            boolean last = check + 1 >= road.checks.size();
            goalMen = ENDLESS;
            for (int h = road.checks.at(check, CHECK_FROM); h <= to; h++) {
                int here = Math.abs(h - high);
                int all = last ? here : here + fewestFrom(check + 1, stand(h, did));
                if (all < goalMen) {
                    goal = h;
                    goalMen = all;
                }
            }
        }

        private int fewestFrom(int check, int stand) {
            int place = check * STANDS + stand;
            return place >= 0 && place < fewest.length ? fewest[place] : 0;
        }

        private void keep(int check, int stand, int cost) {
            int place = check * STANDS + stand;
            if (place >= 0 && place < fewest.length) {
                fewest[place] = cost;
            }
        }
    }

    /** Weights over the heights of the wall, moved on passer by passer: rows counted, or odds. */
    private static final class Spread {
        private final long[] now = new long[LEVELS];
        private final long[] later = new long[LEVELS];

        void startAt(int high) {
            Arrays.fill(now, 0);
            add(now, high, 1);
        }

        /** What cannot be done is either no way at all, or it is left, and the wall stays. */
        void pass(int takes, int stays, int lays, boolean leftStays) {
            Arrays.fill(later, 0);
            for (int h = 0; h <= TOP; h++) {
                long weight = now[h];
                int takenTo = h > 0 || !leftStays ? h - 1 : h;
                int laidTo = h < TOP || !leftStays ? h + 1 : h;
                add(later, takenTo, weight * takes);
                add(later, h, weight * stays);
                add(later, laidTo, weight * lays);
            }
            System.arraycopy(later, 0, now, 0, LEVELS);
        }

        long upTo(int high) {
            long sum = 0;
            for (int h = 0; h <= high && h <= TOP; h++) {
                sum += now[h];
            }
            return sum;
        }

        long takeOutUpTo(int high) {
            long sum = upTo(high);
            for (int h = 0; h <= high && h <= TOP; h++) {
                now[h] = 0;
            }
            return sum;
        }

        void keepOnly(int high) {
            for (int h = 0; h <= TOP; h++) {
                if (h != high) {
                    now[h] = 0;
                }
            }
        }

        private static void add(long[] weights, int high, long weight) {
            if (high >= 0 && high < weights.length) {
                weights[high] += weight;
            }
        }
    }

    /** The text of a road, its tokens, and the items that it tells. */
    private static final class RoadText {
        private static final int END = 0;
        private static final int WORD = 1;
        private static final int NUMBER = 2;
        private static final int STOP = 3;
        private static final int WRONG = 4;

        private static final int ITEM_WIDTH = 5;
        // The shortest item is wall0; of six bytes.
        private static final int MOST_ITEMS = MOST_BYTES / 6;

        private final byte[] bytes = new byte[MOST_BYTES];
        private final Rows items = new Rows(MOST_ITEMS, ITEM_WIDTH);
        private int length = 0;
        private int place = 0;
        private int next = 0;

        int size() {
            return length;
        }

        void append(byte b) {
            if (length >= 0 && length < bytes.length) {
                bytes[length] = b;
                length++;
            }
        }

        int makeEmpty() {
            int was = length;
            length = 0;
            return was;
        }

        int itemCount() {
            return items.size();
        }

        int sortOf(int item) {
            return items.at(item, 0);
        }

        int numberOf(int item, int i) {
            return items.at(item, 1 + i);
        }

        /** Reads the items; the place of the fault, NONE if there is none. */
        int findFault() {
            items.dropAll();
            next = 0;
            boolean inItem = false;
            int item = 0;
            int read = 0;
            // Each token has a byte at least, and the end comes behind them.
            for (int token = 0; token <= MOST_BYTES; token++) {
                int sort = nextToken();
                if (sort == END) {
                    return inItem ? length : NONE;
                }
                if (!inItem) {
                    int word = sort == WORD ? wordAtHand() : NONE;
                    if (word == NONE) {
                        return place;
                    }
                    item = items.open();
                    items.put(item, 0, word);
                    inItem = true;
                    read = 0;
                } else if (read < numbersIn(items.at(item, 0))) {
                    if (sort != NUMBER) {
                        return place;
                    }
                    read++;
                    items.put(item, read, numberAtHand());
                } else {
                    if (sort != STOP) {
                        return place;
                    }
                    inItem = false;
                }
            }
            return length;
        }

        private int nextToken() {
            place = next;
            while (place < length && byteAt(place) == ' ') {
                place++;
            }
            next = place + 1;
            if (place >= length) {
                return END;
            }
            int b = byteAt(place);
            if (isLetter(b)) {
                while (next < length && isLetter(byteAt(next))) {
                    next++;
                }
                return WORD;
            }
            if (isFigure(b)) {
                while (next < length && isFigure(byteAt(next))) {
                    next++;
                }
                return next - place <= 2 ? NUMBER : WRONG;
            }
            return b == ';' ? STOP : WRONG;
        }

        private int byteAt(int i) {
            return i >= 0 && i < bytes.length ? bytes[i] : 0;
        }

        private static boolean isLetter(int b) {
            return b >= 'a' && b <= 'z';
        }

        private static boolean isFigure(int b) {
            return b >= '0' && b <= '9';
        }

        private int numberAtHand() {
            int number = 0;
            for (int i = place; i < next; i++) {
                number = 10 * number + byteAt(i) - '0';
            }
            return number;
        }

        private int wordAtHand() {
            for (int sort = 0; sort < ITEM_SORTS; sort++) {
                if (isAtHand(wordOf(sort))) {
                    return sort;
                }
            }
            return NONE;
        }

        private boolean isAtHand(String word) {
            if (word.length() != next - place) {
                return false;
            }
            for (int i = 0; i < word.length(); i++) {
                if (word.charAt(i) != byteAt(place + i)) {
                    return false;
                }
            }
            return true;
        }

        private static String wordOf(int sort) {
            switch (sort) {
                case WALL_ITEM:
                    return "wall";
                case PASSER_ITEM:
                    return "passer";
                case BEAST_ITEM:
                    return "beast";
                case CHECK_ITEM:
                    return "check";
                case LOOK_ITEM:
                    return "look";
                default:
                    return "coach";
            }
        }

        private static int numbersIn(int sort) {
            switch (sort) {
                case PASSER_ITEM:
                    return 4;
                case CHECK_ITEM:
                    return 3;
                case BEAST_ITEM:
                case LOOK_ITEM:
                    return 2;
                default:
                    return 1;
            }
        }
    }
}
