import java.util.Arrays;
import java.util.NoSuchElementException;

/** An addressable lamp strip: a chain of pixels, each of which takes one color of a row and passes on the rest. */
public final class LampStrip {
    public static final int SYNTAX_ERROR = -2;
    public static final int OUT_OF_RANGE = -3;
    public static final int REPEATED = -4;
    public static final int TOO_MANY = -5;
    public static final int TOO_DEEP = -6;

    private static final int MOST_BYTES = 600;
    private static final int APPENDED_BYTES = 20;
    private static final int MOST_PIXELS = 40;
    private static final int MOST_UNIT = 100;
    private static final int MOST_FEEDS = 6;
    private static final int MOST_BAD = 10;
    private static final int MOST_CHANNEL = 255;
    private static final int WHITE_SUM = 765;
    private static final int MOST_NUMBER = 9999;
    private static final int MOST_SHOWS = 50;
    private static final int MOST_FORETOLD = 20;
    private static final int SLOTS = 2;
    private static final int UNDOABLE = 8;

    private static final int GOOD = 0;
    private static final int DEAD = 1;
    private static final int BURNT = 2;
    private static final int STUTTERING = 3;
    private static final int LEAST_PERIOD = 2;
    private static final int MOST_PERIOD = 9;

    // What is wrong with the arguments of a call; the numbers are those that ending() tells of a script's command.
    private static final int NO_FAULT = 0;
    private static final int BAD_ARGUMENT = 2;
    private static final int NO_SUCH_INDEX = 3;

    private final Text text = new Text();
    private final Dimmer dimmer = new Dimmer();
    private final Strip now = new Strip();
    private final Strip draft = new Strip();
    private final Setup setup = new Setup(text, draft);
    private final Script script = new Script(text, now, dimmer);
    private final History history = new History();
    private final Strip firstSlot = new Strip();
    private final Strip secondSlot = new Strip();
    private boolean isFirstKept = false;
    private boolean isSecondKept = false;
    private int latestErrorOffset = -1;
    private int latestEnding = 0;

    public LampStrip() {
    }

    public int append(int w0, int w1, int w2, int w3, int w4) {
        if (text.length() + APPENDED_BYTES > MOST_BYTES) {
            return -1;
        }
        text.addBytes(w0);
        text.addBytes(w1);
        text.addBytes(w2);
        text.addBytes(w3);
        text.addBytes(w4);
        return text.length();
    }

    public int load(int length) throws IllegalArgumentException {
        if (length < 0 || length > text.length()) {
            throw new IllegalArgumentException();
        }
        text.begin(length);
        boolean isRead = setup.read();
        text.clear();
        latestErrorOffset = text.errorAt();
        if (!isRead) {
            return text.error();
        }
        history.remember(now);
        now.copyFrom(draft);
        return now.pixels;
    }

    public int run(int length) throws IllegalArgumentException {
        if (length < 0 || length > text.length()) {
            throw new IllegalArgumentException();
        }
        text.begin(length);
        boolean isRead = script.read();
        text.clear();
        latestErrorOffset = text.errorAt();
        if (!isRead) {
            return text.error();
        }
        history.remember(now);
        script.perform(0, script.commands(), 0);
        latestEnding = script.stop();
        return script.done();
    }

    public int errorOffset() {
        return latestErrorOffset;
    }

    public int ending() {
        return latestEnding;
    }

    public int state(int what) throws IllegalArgumentException {
        switch (what) {
            case 0:
                return now.pixels;
            case 1:
                return now.unit;
            case 2:
                return now.brightness;
            case 3:
                return now.feeds;
            case 4:
                return Long.bitCount(now.bypassed);
            case 5:
                return now.shows;
            case 6:
                return now.countWrong();
            case 7:
                return now.current();
            case 8:
                return now.account;
            case 9:
                return Long.bitCount(now.badOnes() & ~now.bypassed);
            default:
                throw new IllegalArgumentException();
        }
    }

    public int pixel(int pixel, int what) throws IndexOutOfBoundsException, IllegalArgumentException {
        if (!now.hasPixel(pixel)) {
            throw new IndexOutOfBoundsException();
        }
        switch (what) {
            case 0:
                return now.kind[pixel];
            case 1:
                return now.isBypassed(pixel) ? 1 : 0;
            case 2:
                return now.period[pixel];
            case 3:
                return now.frames[pixel];
            case 4:
                return now.shownColor(pixel);
            case 5:
                return now.taken[pixel];
            case 6:
                return now.due[pixel];
            case 7:
                return now.origins[pixel];
            case 8:
                return now.frame[pixel];
            default:
                throw new IllegalArgumentException();
        }
    }

    public int feed(int feed, int what) throws IndexOutOfBoundsException, IllegalArgumentException {
        if (!now.hasFeed(feed)) {
            throw new IndexOutOfBoundsException();
        }
        switch (what) {
            case 0:
                return now.feedPixel[feed];
            case 1:
                return now.feedLimit[feed];
            case 2:
                return now.loadOf(feed);
            case 3:
                return now.lastFedBy(feed);
            default:
                throw new IllegalArgumentException();
        }
    }

    public int why(int pixel) throws IndexOutOfBoundsException {
        if (!now.hasPixel(pixel)) {
            throw new IndexOutOfBoundsException();
        }
        return now.reasonOf(pixel);
    }

    public int origin(int pixel) throws IndexOutOfBoundsException {
        if (!now.hasPixel(pixel)) {
            throw new IndexOutOfBoundsException();
        }
        now.sendRow(now.bypassed);
        return now.kind[pixel] == DEAD ? -1 : now.row[pixel];
    }

    public int wrongIn(int times) throws IllegalArgumentException {
        if (times < 1 || times > MOST_FORETOLD) {
            throw new IllegalArgumentException();
        }
        draft.copyFrom(now);
        draft.workOutDue(dimmer);
        for (int time = 0; time < times; time++) {
            draft.takeRow();
        }
        return draft.countWrong();
    }

    public long plan(int many) throws IllegalArgumentException {
        if (many < 0 || many > MOST_BAD) {
            throw new IllegalArgumentException();
        }
        draft.copyFrom(now);
        draft.workOutDue(dimmer);
        return draft.bestRepair(many);
    }

    public int greatestLevel() {
        for (int level = MOST_CHANNEL; level >= 0; level--) {
            dimmer.prepare(now.curve, level);
            if (now.isWithinLimits(dimmer)) {
                return level;
            }
        }
        return -1;
    }

    public double usage() {
        int limits = now.sumOfLimits();
        if (limits == 0) {
            return 0.0;
        }
        return (double) now.current() / (double) limits;
    }

    public int fill(int from, int to, int red, int green, int blue)
            throws IndexOutOfBoundsException, IllegalArgumentException {
        int fault = now.faultOfFill(from, to, red, green, blue);
        if (fault == NO_SUCH_INDEX) {
            throw new IndexOutOfBoundsException();
        }
        if (fault != NO_FAULT) {
            throw new IllegalArgumentException();
        }
        history.remember(now);
        return now.paint(from, to, colorOf(red, green, blue));
    }

    public int shift(int by) throws IllegalArgumentException {
        if (by < 0 || by > MOST_NUMBER) {
            throw new IllegalArgumentException();
        }
        history.remember(now);
        return now.turn(by);
    }

    public int level(int level) throws IllegalArgumentException {
        if (!isChannel(level)) {
            throw new IllegalArgumentException();
        }
        history.remember(now);
        int before = now.brightness;
        now.brightness = level;
        return before;
    }

    public int show(int times) throws IllegalArgumentException {
        if (times < 1 || times > MOST_SHOWS) {
            throw new IllegalArgumentException();
        }
        history.remember(now);
        for (int time = 0; time < times; time++) {
            now.showOnce(dimmer);
        }
        return now.countWrong();
    }

    public boolean bypass(int pixel, boolean isOn) throws IndexOutOfBoundsException {
        if (!now.hasPixel(pixel)) {
            throw new IndexOutOfBoundsException();
        }
        history.remember(now);
        boolean wasOn = now.isBypassed(pixel);
        now.setBypassed(pixel, isOn);
        return wasOn;
    }

    public int damage(int pixel, int kind, int period)
            throws IndexOutOfBoundsException, IllegalArgumentException, IllegalStateException {
        if (!now.hasPixel(pixel)) {
            throw new IndexOutOfBoundsException();
        }
        if (kind < GOOD || kind > STUTTERING || !isPeriodOf(kind, period)) {
            throw new IllegalArgumentException();
        }
        int before = now.kind[pixel];
        if (before == GOOD && kind != GOOD && Long.bitCount(now.badOnes()) >= MOST_BAD) {
            throw new IllegalStateException();
        }
        history.remember(now);
        now.setKind(pixel, kind, period);
        return before;
    }

    public int limit(int feed, int limit) throws IndexOutOfBoundsException, IllegalArgumentException {
        if (!now.hasFeed(feed)) {
            throw new IndexOutOfBoundsException();
        }
        if (limit < 0 || limit > MOST_NUMBER) {
            throw new IllegalArgumentException();
        }
        history.remember(now);
        int before = now.feedLimit[feed];
        now.feedLimit[feed] = limit;
        return before;
    }

    public int keep(int slot) throws IndexOutOfBoundsException {
        if (slot < 0 || slot >= SLOTS) {
            throw new IndexOutOfBoundsException();
        }
        if (slot == 0) {
            firstSlot.copyFrom(now);
            isFirstKept = true;
        } else {
            secondSlot.copyFrom(now);
            isSecondKept = true;
        }
        return now.countWrong();
    }

    public int restore(int slot) throws IndexOutOfBoundsException, NoSuchElementException {
        if (slot < 0 || slot >= SLOTS) {
            throw new IndexOutOfBoundsException();
        }
        if (slot == 0 ? !isFirstKept : !isSecondKept) {
            throw new NoSuchElementException();
        }
        history.remember(now);
        now.copyFrom(slot == 0 ? firstSlot : secondSlot);
        return now.countWrong();
    }

    public int undo() {
        return history.goBack(now);
    }

    public long checksum() {
        long sum = 0;
        for (int what = 0; what <= 9; what++) {
            sum = 31 * sum + state(what);
        }
        for (int pixel = 0; pixel < now.pixels; pixel++) {
            for (int what = 0; what <= 8; what++) {
                sum = 31 * sum + pixel(pixel, what);
            }
        }
        for (int feed = 0; feed < now.feeds; feed++) {
            for (int what = 0; what <= 3; what++) {
                sum = 31 * sum + feed(feed, what);
            }
        }
        return sum;
    }

    private static boolean isChannel(int number) {
        return number >= 0 && number <= MOST_CHANNEL;
    }

    private static boolean isPeriodOf(int kind, int period) {
        return kind == STUTTERING ? period >= LEAST_PERIOD && period <= MOST_PERIOD : period == 0;
    }

    private static int colorOf(int red, int green, int blue) {
        return red << 16 | green << 8 | blue;
    }

    /** All data that a slot keeps and that undo() brings back, and what the strip does with them. */
    private static final class Strip {
        private final int[] frame = new int[MOST_PIXELS];
        private final int[] due = new int[MOST_PIXELS];
        private final int[] kind = new int[MOST_PIXELS];
        private final int[] period = new int[MOST_PIXELS];
        private final int[] frames = new int[MOST_PIXELS];
        private final int[] taken = new int[MOST_PIXELS];
        private final int[] origins = new int[MOST_PIXELS];
        private final int[] feedPixel = new int[MOST_FEEDS];
        private final int[] feedLimit = new int[MOST_FEEDS];
        private int pixels;
        private int unit;
        private int brightness;
        private int feeds;
        private int shows;
        private int account;
        private long bypassed;
        // Never changed once it is made, so several strips may hold the same one; of no length without a curve.
        private int[] curve;
        // Only for the work of one call, so it is not copied.
        private final int[] row = new int[MOST_PIXELS];

        Strip() {
            reset(1, 1);
        }

        void reset(int newPixels, int newUnit) {
            pixels = newPixels;
            unit = newUnit;
            brightness = MOST_CHANNEL;
            shows = 0;
            account = 0;
            bypassed = 0;
            curve = new int[0];
            feeds = 1;
            feedPixel[0] = 0;
            feedLimit[0] = MOST_NUMBER;
            Arrays.fill(frame, 0);
            Arrays.fill(due, 0);
            Arrays.fill(kind, GOOD);
            Arrays.fill(period, 0);
            Arrays.fill(frames, 0);
            Arrays.fill(taken, 0);
            Arrays.fill(origins, -1);
        }

        void copyFrom(Strip other) {
            pixels = other.pixels;
            unit = other.unit;
            brightness = other.brightness;
            shows = other.shows;
            account = other.account;
            bypassed = other.bypassed;
            curve = other.curve;
            feeds = other.feeds;
            System.arraycopy(other.feedPixel, 0, feedPixel, 0, MOST_FEEDS);
            System.arraycopy(other.feedLimit, 0, feedLimit, 0, MOST_FEEDS);
            System.arraycopy(other.frame, 0, frame, 0, MOST_PIXELS);
            System.arraycopy(other.due, 0, due, 0, MOST_PIXELS);
            System.arraycopy(other.kind, 0, kind, 0, MOST_PIXELS);
            System.arraycopy(other.period, 0, period, 0, MOST_PIXELS);
            System.arraycopy(other.frames, 0, frames, 0, MOST_PIXELS);
            System.arraycopy(other.taken, 0, taken, 0, MOST_PIXELS);
            System.arraycopy(other.origins, 0, origins, 0, MOST_PIXELS);
        }

        boolean hasPixel(int index) {
            return index >= 0 && index < pixels;
        }

        boolean hasFeed(int index) {
            return index >= 0 && index < feeds;
        }

        boolean isBypassed(int index) {
            return isIn(bypassed, index);
        }

        void setBypassed(int index, boolean isOn) {
            bypassed = isOn ? bypassed | 1L << index : bypassed & ~(1L << index);
        }

        void setKind(int index, int newKind, int newPeriod) {
            kind[index] = newKind;
            period[index] = newPeriod;
        }

        /** The bad pixels, bypassed or not, as the sum of 2^pixel. */
        long badOnes() {
            long bad = 0;
            for (int i = 0; i < pixels; i++) {
                if (kind[i] != GOOD) {
                    bad |= 1L << i;
                }
            }
            return bad;
        }

        int faultOfFill(int from, int to, int red, int green, int blue) {
            if (!hasPixel(from) || !hasPixel(to)) {
                return NO_SUCH_INDEX;
            }
            if (from > to || !isChannel(red) || !isChannel(green) || !isChannel(blue)) {
                return BAD_ARGUMENT;
            }
            return NO_FAULT;
        }

        int paint(int from, int to, int color) {
            int others = 0;
            for (int i = from; i <= to; i++) {
                if (frame[i] != color) {
                    frame[i] = color;
                    others++;
                }
            }
            return others;
        }

        int turn(int by) {
            System.arraycopy(frame, 0, row, 0, pixels);
            for (int i = 0; i < pixels; i++) {
                frame[(i + by) % pixels] = row[i];
            }
            return frame[0];
        }

        void addFeed(int index, int newLimit) {
            if (index == 0) {
                feedLimit[0] = newLimit;
            } else if (feeds < MOST_FEEDS) {
                int place = feeds;
                while (place > 1 && feedPixel[place - 1] > index) {
                    feedPixel[place] = feedPixel[place - 1];
                    feedLimit[place] = feedLimit[place - 1];
                    place--;
                }
                feedPixel[place] = index;
                feedLimit[place] = newLimit;
                feeds++;
            }
        }

        int feedOf(int index) {
            int feed = 0;
            for (int i = 1; i < feeds; i++) {
                if (feedPixel[i] <= index) {
                    feed = i;
                }
            }
            return feed;
        }

        int lastFedBy(int feed) {
            return feed + 1 < feeds ? feedPixel[feed + 1] - 1 : pixels - 1;
        }

        int loadOf(int feed) {
            int load = 0;
            for (int i = feedPixel[feed]; i <= lastFedBy(feed); i++) {
                if (isLamp(i)) {
                    load += currentOf(taken[i]);
                }
            }
            return load;
        }

        int sumOfLimits() {
            int sum = 0;
            for (int feed = 0; feed < feeds; feed++) {
                sum += feedLimit[feed];
            }
            return sum;
        }

        /** Whether the pixel shows a color and loads its feed with it. */
        private boolean isLamp(int index) {
            return (kind[index] == GOOD || kind[index] == STUTTERING) && !isIn(bypassed, index);
        }

        private int currentOf(int color) {
            return ((color >> 16 & 255) + (color >> 8 & 255) + (color & 255)) * unit / WHITE_SUM;
        }

        int shownColor(int index) {
            if (!isLamp(index)) {
                return 0;
            }
            int feed = feedOf(index);
            return sharedColor(taken[index], feedLimit[feed], loadOf(feed));
        }

        private static int sharedColor(int color, int limit, int load) {
            if (load <= limit || load <= 0) {
                return color;
            }
            int red = (color >> 16 & 255) * limit / load;
            int green = (color >> 8 & 255) * limit / load;
            int blue = (color & 255) * limit / load;
            return colorOf(red, green, blue);
        }

        int current() {
            int sum = 0;
            for (int feed = 0; feed < feeds; feed++) {
                int load = loadOf(feed);
                for (int i = feedPixel[feed]; i <= lastFedBy(feed); i++) {
                    if (isLamp(i)) {
                        sum += currentOf(sharedColor(taken[i], feedLimit[feed], load));
                    }
                }
            }
            return sum;
        }

        /** Whether the frame, as the dimmer sends it, would load no feed beyond its limit. */
        boolean isWithinLimits(Dimmer dimmer) {
            for (int feed = 0; feed < feeds; feed++) {
                int load = 0;
                for (int i = feedPixel[feed]; i <= lastFedBy(feed) && load <= feedLimit[feed]; i++) {
                    if (isLamp(i)) {
                        load += currentOf(dimmer.sentColor(frame[i]));
                    }
                }
                if (load > feedLimit[feed]) {
                    return false;
                }
            }
            return true;
        }

        void showOnce(Dimmer dimmer) {
            workOutDue(dimmer);
            takeRow();
            shows++;
            account += current();
        }

        void workOutDue(Dimmer dimmer) {
            dimmer.prepare(curve, brightness);
            for (int i = 0; i < pixels; i++) {
                due[i] = dimmer.sentColor(frame[i]);
            }
        }

        void takeRow() {
            sendRow(bypassed);
            for (int i = 0; i < pixels; i++) {
                int from = row[i];
                if (from >= 0) {
                    frames[i]++;
                    if (kind[i] != DEAD) {
                        taken[i] = due[from];
                        origins[i] = from;
                    }
                }
            }
        }

        /**
         * Puts into the row, for each pixel, the one whose color is first in what comes to it (-1 if no color
         * comes). The colors that are left are always those of the pixels from the first one on, without those
         * that are left out, so the first one says all.
         */
        void sendRow(long leftOut) {
            int first = nextBehind(-1, leftOut);
            for (int i = 0; i < pixels; i++) {
                row[i] = -1;
                if (first < pixels && !isIn(leftOut, i)) {
                    row[i] = first;
                    if (kind[i] == DEAD) {
                        first = pixels;
                    } else if (!isStutterDue(i)) {
                        first = nextBehind(first, leftOut);
                    }
                }
            }
        }

        private int nextBehind(int index, long leftOut) {
            int next = index + 1;
            while (next < pixels && isIn(leftOut, next)) {
                next++;
            }
            return next;
        }

        private boolean isStutterDue(int index) {
            return kind[index] == STUTTERING && period[index] > 0 && (frames[index] + 1) % period[index] == 0;
        }

        private boolean isOut(int index) {
            return kind[index] == DEAD || kind[index] == BURNT;
        }

        int countWrong() {
            int wrong = 0;
            for (int i = 0; i < pixels; i++) {
                if (!isBypassed(i) && (isOut(i) || taken[i] != due[i])) {
                    wrong++;
                }
            }
            return wrong;
        }

        /** The wrong pixels behind one more row of the due colors, with these pixels bypassed. */
        private int countWrongWithout(long leftOut) {
            sendRow(leftOut);
            int wrong = 0;
            for (int i = 0; i < pixels; i++) {
                if (!isIn(leftOut, i)) {
                    int color = row[i] >= 0 ? due[row[i]] : taken[i];
                    if (isOut(i) || color != due[i]) {
                        wrong++;
                    }
                }
            }
            return wrong;
        }

        long bestRepair(int many) {
            long bad = badOnes() & ~bypassed;
            long best = 0;
            int fewestWrong = MOST_PIXELS + 1;
            int fewestRepaired = MOST_BAD + 1;
            long set = 0;
            for (int left = 1 << Math.min(MOST_BAD, Long.bitCount(bad)); left > 0; left--) {
                int repaired = Long.bitCount(set);
                if (repaired <= many) {
                    int wrong = countWrongWithout(bypassed | set);
                    if (wrong < fewestWrong || wrong == fewestWrong && repaired < fewestRepaired) {
                        best = set;
                        fewestWrong = wrong;
                        fewestRepaired = repaired;
                    }
                }
                // The next greater subset: so of equal ones the smallest sum comes first and stays.
                set = set - bad & bad;
            }
            return best;
        }

        int reasonOf(int index) {
            if (isBypassed(index)) {
                return 1;
            }
            if (kind[index] == DEAD) {
                return 2;
            }
            if (kind[index] == BURNT) {
                return 3;
            }
            if (origins[index] < 0) {
                return 4;
            }
            if (taken[index] != due[index]) {
                if (isDeadOneAhead(index)) {
                    return 5;
                }
                return origins[index] != index ? 6 : 7;
            }
            int feed = feedOf(index);
            return loadOf(feed) > feedLimit[feed] ? 8 : 0;
        }

        private boolean isDeadOneAhead(int index) {
            for (int i = 0; i < index; i++) {
                if (kind[i] == DEAD && !isBypassed(i)) {
                    return true;
                }
            }
            return false;
        }

        private static boolean isIn(long set, int index) {
            return (set >>> index & 1L) != 0;
        }
    }

    /** Works out what is sent for a color of the frame, by one curve at one level. */
    private static final class Dimmer {
        private static final int UNKNOWN = -1;
        // Ahead of each parenthesis a sum and a term may wait for it, and 4 may be open: 4 * 2 + 3 values.
        private static final int MOST_WAITING = 16;
        private static final int MOST_RESULT = 1000000;

        private final int[] known = new int[MOST_CHANNEL + 1];
        private final int[] waiting = new int[MOST_WAITING];
        private int[] curve = new int[0];
        private int brightness = MOST_CHANNEL;

        void prepare(int[] newCurve, int newBrightness) {
            curve = newCurve;
            brightness = newBrightness;
            Arrays.fill(known, UNKNOWN);
        }

        int sentColor(int color) {
            int sent = 0;
            for (int bits = 16; bits >= 0; bits -= 8) {
                int x = color >> bits & 255;
                if (known[x] == UNKNOWN) {
                    int result = curve.length == 0 ? x * brightness / MOST_CHANNEL : resultFor(x);
                    known[x] = Math.max(0, Math.min(MOST_CHANNEL, result));
                }
                sent = sent << 8 | known[x];
            }
            return sent;
        }

        private int resultFor(int x) {
            int size = 0;
            for (int at = 0; at < curve.length; at++) {
                int item = curve[at];
                if (item >= Sum.BRIGHTNESS) {
                    if (size < MOST_WAITING) {
                        waiting[size] = item >= 0 ? item : item == Sum.CHANNEL ? x : brightness;
                        size++;
                    }
                } else if (size >= 2) {
                    size--;
                    long result = resultOf(item, waiting[size - 1], waiting[size]);
                    waiting[size - 1] = (int) Math.max(-MOST_RESULT, Math.min(MOST_RESULT, result));
                }
            }
            return size > 0 ? waiting[0] : 0;
        }

        private static long resultOf(int operation, long left, long right) {
            switch (operation) {
                case Sum.PLUS:
                    return left + right;
                case Sum.MINUS:
                    return left - right;
                case Sum.TIMES:
                    return left * right;
                default:
                    return right == 0 ? 0 : left / right;
            }
        }
    }

    /** Reads the expression of a curve; each operation stands behind its two operands in what it makes of it. */
    private static final class Sum {
        // An item that is not negative is a number itself.
        static final int CHANNEL = -1;
        static final int BRIGHTNESS = -2;
        static final int PLUS = -3;
        static final int MINUS = -4;
        static final int TIMES = -5;
        static final int OVER = -6;
        private static final int DEEPEST = 4;
        private static final int NONE = 0;

        private final Text text;
        private final int[] items = new int[MOST_BYTES];
        private int size = 0;

        Sum(Text text) {
            this.text = text;
        }

        void clear() {
            size = 0;
        }

        int[] curve() {
            return Arrays.copyOf(items, size);
        }

        /** A sum or difference is put behind only when its right term is whole, so that it waits for one. */
        private boolean readSum(int depth) {
            int waiting = NONE;
            if (!readFactor(depth)) {
                return false;
            }
            int operation = operationHere();
            for (int n = 0; n < MOST_BYTES && operation != NONE; n++) {
                boolean isOfTerm = operation == TIMES || operation == OVER;
                if (!isOfTerm) {
                    addOperation(waiting);
                    waiting = operation;
                }
                text.advance();
                if (!readFactor(depth)) {
                    return false;
                }
                if (isOfTerm) {
                    addOperation(operation);
                }
                operation = operationHere();
            }
            addOperation(waiting);
            return true;
        }

        private int operationHere() {
            if (text.isSign('+')) {
                return PLUS;
            }
            if (text.isSign('-')) {
                return MINUS;
            }
            if (text.isSign('*')) {
                return TIMES;
            }
            return text.isSign('/') ? OVER : NONE;
        }

        private boolean readFactor(int depth) {
            if (text.isSign('(')) {
                if (depth >= DEEPEST) {
                    return text.refuse(TOO_DEEP);
                }
                text.advance();
                return readSum(depth + 1) && text.takeSign(')');
            }
            if (text.isWord("x") || text.isWord("level")) {
                addItem(text.isWord("x") ? CHANNEL : BRIGHTNESS);
                text.advance();
                return true;
            }
            int number = text.takeNumber(0, MOST_NUMBER);
            if (number < 0) {
                return false;
            }
            addItem(number);
            return true;
        }

        private void addOperation(int operation) {
            if (operation != NONE) {
                addItem(operation);
            }
        }

        private void addItem(int item) {
            if (size < MOST_BYTES) {
                items[size] = item;
                size++;
            }
        }
    }

    /** The input buffer, and the tokens of the text that is read from it. */
    private static final class Text {
        private static final int END = 0;
        private static final int NUMBER = 1;
        private static final int WORD = 2;
        private static final int SIGN = 3;
        // Greater than any number that is allowed, and small enough to get one more digit.
        private static final int GREAT = 1000000;

        private final byte[] bytes = new byte[MOST_BYTES];
        private int length = 0;
        private int end = 0;
        private int kind = END;
        private int start = 0;
        private int behind = 0;
        private int number = 0;
        private int numberStart = 0;
        private int error = 0;
        private int errorAt = -1;

        int length() {
            return length;
        }

        int error() {
            return error;
        }

        int errorAt() {
            return errorAt;
        }

        void addBytes(int word) {
            for (int bits = 24; bits >= 0; bits -= 8) {
                if (length < MOST_BYTES) {
                    bytes[length] = (byte) (word >> bits);
                    length++;
                }
            }
        }

        void clear() {
            length = 0;
        }

        void begin(int textLength) {
            end = Math.max(0, Math.min(length, textLength));
            behind = 0;
            error = 0;
            errorAt = -1;
            advance();
        }

        void advance() {
            start = behind;
            while (start < end && bytes[start] == ' ') {
                start++;
            }
            behind = start;
            number = 0;
            if (start >= end) {
                kind = END;
            } else if (isDigit(bytes[start])) {
                kind = NUMBER;
                while (behind < end && isDigit(bytes[behind])) {
                    number = number >= GREAT ? GREAT : 10 * number + bytes[behind] - '0';
                    behind++;
                }
            } else if (isLetter(bytes[start])) {
                kind = WORD;
                while (behind < end && isLetter(bytes[behind])) {
                    behind++;
                }
            } else {
                kind = SIGN;
                behind++;
            }
        }

        private static boolean isDigit(byte letter) {
            return letter >= '0' && letter <= '9';
        }

        private static boolean isLetter(byte letter) {
            return letter >= 'a' && letter <= 'z';
        }

        boolean isEnd() {
            return kind == END;
        }

        boolean isSign(char sign) {
            return kind == SIGN && start < end && bytes[start] == sign;
        }

        boolean isWord(String word) {
            if (kind != WORD || behind - start != word.length()) {
                return false;
            }
            for (int i = 0; i < word.length(); i++) {
                if (bytes[start + i] != word.charAt(i)) {
                    return false;
                }
            }
            return true;
        }

        boolean takeEnd() {
            return isEnd() || refuse(SYNTAX_ERROR);
        }

        boolean takeSign(char sign) {
            if (!isSign(sign)) {
                return refuse(SYNTAX_ERROR);
            }
            advance();
            return true;
        }

        boolean takeWord(String word) {
            if (!isWord(word)) {
                return refuse(SYNTAX_ERROR);
            }
            advance();
            return true;
        }

        /** The number that stands here; -1 if none does, or one that is out of this range. */
        int takeNumber(int least, int most) {
            if (kind != NUMBER) {
                refuse(SYNTAX_ERROR);
                return -1;
            }
            if (number < least || number > most) {
                refuse(OUT_OF_RANGE);
                return -1;
            }
            int taken = number;
            numberStart = start;
            advance();
            return taken;
        }

        boolean refuse(int code) {
            return refuseAt(code, start);
        }

        boolean refuseNumber(int code) {
            return refuseAt(code, numberStart);
        }

        private boolean refuseAt(int code, int offset) {
            error = code;
            errorAt = offset;
            return false;
        }
    }

    /** Reads a setup text into a strip. */
    private static final class Setup {
        private final Text text;
        private final Strip draft;
        private final Sum sum;
        private long fed = 0;
        private long bad = 0;
        private boolean isLevelTold = false;
        private boolean isCurveTold = false;

        Setup(Text text, Strip draft) {
            this.text = text;
            this.draft = draft;
            this.sum = new Sum(text);
        }

        boolean read() {
            fed = 0;
            bad = 0;
            isLevelTold = false;
            isCurveTold = false;
            sum.clear();
            if (!readStrip()) {
                return false;
            }
            for (int n = 0; n < MOST_BYTES && !text.isEnd(); n++) {
                if (!readStatement() || !text.takeSign(';')) {
                    return false;
                }
            }
            return text.takeEnd();
        }

        private boolean readStrip() {
            if (!text.takeWord("strip")) {
                return false;
            }
            int pixels = text.takeNumber(1, MOST_PIXELS);
            if (pixels < 0) {
                return false;
            }
            int unit = text.takeNumber(1, MOST_UNIT);
            if (unit < 0) {
                return false;
            }
            draft.reset(pixels, unit);
            return text.takeSign(';');
        }

        private boolean readStatement() {
            if (text.isWord("feed")) {
                return readFeed();
            }
            if (text.isWord("bad")) {
                return readBad();
            }
            if (text.isWord("fill")) {
                return readFill();
            }
            if (text.isWord("level") && !isLevelTold) {
                return readLevel();
            }
            if (text.isWord("curve") && !isCurveTold) {
                isCurveTold = true;
                text.advance();
                if (!sum.readSum(0)) {
                    return false;
                }
                draft.curve = sum.curve();
                return true;
            }
            return text.refuse(SYNTAX_ERROR);
        }

        private boolean readFeed() {
            text.advance();
            int pixel = text.takeNumber(0, draft.pixels - 1);
            if (pixel < 0) {
                return false;
            }
            if (Strip.isIn(fed, pixel)) {
                return text.refuseNumber(REPEATED);
            }
            if (pixel != 0 && draft.feeds >= MOST_FEEDS) {
                return text.refuseNumber(TOO_MANY);
            }
            int limit = text.takeNumber(0, MOST_NUMBER);
            if (limit < 0) {
                return false;
            }
            fed |= 1L << pixel;
            draft.addFeed(pixel, limit);
            return true;
        }

        private boolean readBad() {
            if (Long.bitCount(bad) >= MOST_BAD) {
                return text.refuse(TOO_MANY);
            }
            text.advance();
            int pixel = text.takeNumber(0, draft.pixels - 1);
            if (pixel < 0) {
                return false;
            }
            if (Strip.isIn(bad, pixel)) {
                return text.refuseNumber(REPEATED);
            }
            bad |= 1L << pixel;
            return readKindOf(pixel);
        }

        private boolean readKindOf(int pixel) {
            if (text.isWord("dead") || text.isWord("burnt")) {
                draft.setKind(pixel, text.isWord("dead") ? DEAD : BURNT, 0);
                text.advance();
                return true;
            }
            if (!text.takeWord("stutter")) {
                return false;
            }
            int period = text.takeNumber(LEAST_PERIOD, MOST_PERIOD);
            if (period < 0) {
                return false;
            }
            draft.setKind(pixel, STUTTERING, period);
            return true;
        }

        private boolean readFill() {
            text.advance();
            int from = text.takeNumber(0, draft.pixels - 1);
            if (from < 0) {
                return false;
            }
            int to = text.takeNumber(from, draft.pixels - 1);
            if (to < 0) {
                return false;
            }
            int color = 0;
            for (int n = 0; n < 3; n++) {
                int channel = text.takeNumber(0, MOST_CHANNEL);
                if (channel < 0) {
                    return false;
                }
                color = color << 8 | channel;
            }
            draft.paint(from, to, color);
            return true;
        }

        private boolean readLevel() {
            isLevelTold = true;
            text.advance();
            int level = text.takeNumber(0, MOST_CHANNEL);
            if (level < 0) {
                return false;
            }
            draft.brightness = level;
            return true;
        }
    }

    /** Reads a script, and does its commands with a strip. */
    private static final class Script {
        private static final int FILL = 0;
        private static final int SHIFT = 1;
        private static final int LEVEL = 2;
        private static final int SHOW = 3;
        private static final int BYPASS = 4;
        private static final int REPEAT = 5;
        private static final int NONE = -1;
        private static final int[] NUMBERS_OF = {5, 1, 1, 0, 1, 1};
        private static final int MOST_NUMBERS = 5;
        private static final int MOST_COMMANDS = 60;
        private static final int MOST_REPEATED = 20;
        private static final int DEEPEST = 3;
        private static final int MOST_DONE = 200;
        private static final int ENOUGH_DONE = 1;

        private final Text text;
        private final Strip strip;
        private final Dimmer dimmer;
        private final int[] kinds = new int[MOST_COMMANDS];
        private final int[] numbers = new int[MOST_COMMANDS * MOST_NUMBERS];
        // Behind each command: the index of the first one that is neither it nor in its parentheses.
        private final int[] ends = new int[MOST_COMMANDS];
        private int commands = 0;
        private int done = 0;
        private int stop = NO_FAULT;

        Script(Text text, Strip strip, Dimmer dimmer) {
            this.text = text;
            this.strip = strip;
            this.dimmer = dimmer;
        }

        int commands() {
            return commands;
        }

        int done() {
            return done;
        }

        /** Why it ended, as ending() tells it. */
        int stop() {
            return stop;
        }

        boolean read() {
            commands = 0;
            done = 0;
            stop = NO_FAULT;
            return readCommands(0) && text.takeEnd();
        }

        private boolean readCommands(int depth) {
            for (int n = 0; n < MOST_BYTES && !text.isEnd() && !text.isSign(')'); n++) {
                if (!readCommand(depth) || !text.takeSign(';')) {
                    return false;
                }
            }
            return true;
        }

        private boolean readCommand(int depth) {
            int kind = kindHere();
            if (kind == NONE) {
                return text.refuse(SYNTAX_ERROR);
            }
            if (commands >= MOST_COMMANDS) {
                return text.refuse(TOO_MANY);
            }
            if (kind == REPEAT && depth >= DEEPEST) {
                return text.refuse(TOO_DEEP);
            }
            text.advance();
            int place = commands;
            commands++;
            kinds[place] = kind;
            if (!readNumbers(place)) {
                return false;
            }
            if (kind == REPEAT && !(text.takeSign('(') && readCommands(depth + 1) && text.takeSign(')'))) {
                return false;
            }
            ends[place] = commands;
            return true;
        }

        private int kindHere() {
            if (text.isWord("fill")) {
                return FILL;
            }
            if (text.isWord("shift")) {
                return SHIFT;
            }
            if (text.isWord("level")) {
                return LEVEL;
            }
            if (text.isWord("show")) {
                return SHOW;
            }
            if (text.isWord("bypass")) {
                return BYPASS;
            }
            return text.isWord("repeat") ? REPEAT : NONE;
        }

        private boolean readNumbers(int place) {
            boolean isRepeat = kinds[place] == REPEAT;
            for (int n = 0; n < NUMBERS_OF[kinds[place]]; n++) {
                int number = text.takeNumber(isRepeat ? 1 : 0, isRepeat ? MOST_REPEATED : MOST_NUMBER);
                if (number < 0) {
                    return false;
                }
                numbers[MOST_NUMBERS * place + n] = number;
            }
            return true;
        }

        /** Does the commands from one place up to another; tells whether the script goes on behind them. */
        private boolean perform(int from, int to, int depth) {
            if (depth > DEEPEST) {
                return false;
            }
            for (int place = from; place < to; place = Math.max(place + 1, ends[place])) {
                if (kinds[place] != REPEAT) {
                    if (!performOne(place)) {
                        return false;
                    }
                } else if (ends[place] > place + 1) {
                    for (int time = 0; time < numbers[MOST_NUMBERS * place]; time++) {
                        if (!perform(place + 1, ends[place], depth + 1)) {
                            return false;
                        }
                    }
                }
            }
            return true;
        }

        private boolean performOne(int place) {
            stop = done >= MOST_DONE ? ENOUGH_DONE : faultOf(place);
            if (stop != NO_FAULT) {
                return false;
            }
            int at = MOST_NUMBERS * place;
            switch (kinds[place]) {
                case FILL:
                    strip.paint(numbers[at], numbers[at + 1],
                            colorOf(numbers[at + 2], numbers[at + 3], numbers[at + 4]));
                    break;
                case SHIFT:
                    strip.turn(numbers[at]);
                    break;
                case LEVEL:
                    strip.brightness = numbers[at];
                    break;
                case SHOW:
                    strip.showOnce(dimmer);
                    break;
                default:
                    strip.setBypassed(numbers[at], true);
                    break;
            }
            done++;
            return true;
        }

        private int faultOf(int place) {
            int at = MOST_NUMBERS * place;
            switch (kinds[place]) {
                case FILL:
                    return strip.faultOfFill(numbers[at], numbers[at + 1], numbers[at + 2], numbers[at + 3],
                            numbers[at + 4]);
                case LEVEL:
                    return isChannel(numbers[at]) ? NO_FAULT : BAD_ARGUMENT;
                case BYPASS:
                    return strip.hasPixel(numbers[at]) ? NO_FAULT : NO_SUCH_INDEX;
                default:
                    return NO_FAULT;
            }
        }
    }

    /** The strips as they were before the latest changes that can be undone. */
    private static final class History {
        private final Strip[] before = new Strip[UNDOABLE];
        private int changes = 0;
        private int newest = 0;

        History() {
            for (int i = 0; i < UNDOABLE; i++) {
                before[i] = new Strip();
            }
        }

        void remember(Strip strip) {
            newest = (newest + 1) % UNDOABLE;
            before[newest].copyFrom(strip);
            changes = Math.min(UNDOABLE, changes + 1);
        }

        int goBack(Strip strip) {
            if (changes == 0) {
                return -1;
            }
            strip.copyFrom(before[newest]);
            newest = (newest + UNDOABLE - 1) % UNDOABLE;
            changes--;
            return changes;
        }
    }
}
