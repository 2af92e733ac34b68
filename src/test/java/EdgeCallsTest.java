import java.math.BigInteger;

/** The edges that the promises name for calls: what is taken and what is refused, and what is the same behind that. */
public final class EdgeCallsTest {
    private static final int[] FAR = {Integer.MIN_VALUE, Integer.MAX_VALUE};

    private interface Number {
        void give(LampStrip strip, int number);
    }

    private EdgeCallsTest() {
    }

    public static void main(String[] args) {
        Edges.runAll(EdgeCallsTest.class);
    }

    private static void due(String what, long got, long want) {
        Checks.due(what, got, want);
    }

    /** The number may be least and most; one less, one more and those far away are refused, and change nothing. */
    private static void range(String what, int least, int most, Class<?> refusal, Number call) {
        for (int number : new int[] {least, most}) {
            call.give(Edges.richWithText(), number);
        }
        boolean isRefused = true;
        for (int number : new int[] {least - 1, most + 1, FAR[0], FAR[1]}) {
            // A loop that takes one more would take far too many, too, and go on for long.
            if (isRefused) {
                isRefused = Edges.refused(what + " of " + number, refusal, Edges::richWithText,
                        x -> call.give(x, number));
            }
        }
    }

    @Sentence(promise = 1, value = "Creates an object with one pixel, with an empty input buffer.")
    private static void newObject() {
        LampStrip x = new LampStrip();
        due("pixels", x.state(0), 1);
        Edges.refused("load(1)", Edges.ARGUMENT, LampStrip::new, y -> y.load(1));
        Edges.refused("run(1)", Edges.ARGUMENT, LampStrip::new, y -> y.run(1));
        Edges.refused("pixel(1, 0)", Edges.INDEX, LampStrip::new, y -> y.pixel(1, 0));
        due("the first append", x.append(0, 0, 0, 0, 0), 20);
    }

    @Sentence(promise = 8, value = "In the methods, IndexOutOfBoundsException is thrown if a parameter named pixel, "
            + "from or to is not the index of a pixel, or feed or slot is not the index of such a thing.")
    private static void indexesOfNow() {
        LampStrip x = Checks.made("strip 3 1;feed 2 1;");
        indexes(x, 3, 2);
        Checks.load(x, "strip 40 1;feed 9 1;feed 8 1;feed 7 1;feed 6 1;feed 5 1;");
        indexes(x, 40, 6);
        x.keep(1);
        Checks.load(x, "strip 1 1;");
        indexes(x, 1, 1);
        Checks.load(x, "strip 40 1;what");
        indexes(x, 1, 1);
        x.restore(1);
        indexes(x, 40, 6);
        x.undo();
        indexes(x, 1, 1);
        x.undo();
        x.undo();
        indexes(x, 3, 2);
        Checks.run(x, "bypass 2;bypass 3;");
        due("a script has the same ones", x.state(4), 1);
        due("so it ended there", x.ending(), 3);
    }

    /** It has so many pixels and feeds, and none behind them. */
    private static void indexes(LampStrip x, int pixels, int feeds) {
        for (int pixel : new int[] {0, pixels - 1}) {
            due("frame of " + pixel, x.pixel(pixel, 8), 0);
            due("why of " + pixel, x.why(pixel), 4);
            due("origin of " + pixel, x.origin(pixel), pixel);
        }
        due("pixel of the first feed", x.feed(0, 0), 0);
        due("the last feed's last one", x.feed(feeds - 1, 3), pixels - 1);
        for (int pixel : new int[] {-1, pixels}) {
            Checks.dueThrow("pixel", x, Edges.INDEX, () -> x.pixel(pixel, 8));
            Checks.dueThrow("why", x, Edges.INDEX, () -> x.why(pixel));
            Checks.dueThrow("origin", x, Edges.INDEX, () -> x.origin(pixel));
            Checks.dueThrow("fill, from", x, Edges.INDEX, () -> x.fill(pixel, pixels - 1, 0, 0, 0));
            Checks.dueThrow("fill, to", x, Edges.INDEX, () -> x.fill(0, pixel, 0, 0, 0));
            Checks.dueThrow("bypass", x, Edges.INDEX, () -> x.bypass(pixel, true));
            Checks.dueThrow("damage", x, Edges.INDEX, () -> x.damage(pixel, 0, 0));
        }
        for (int feed : new int[] {-1, feeds}) {
            Checks.dueThrow("feed", x, Edges.INDEX, () -> x.feed(feed, 0));
            Checks.dueThrow("limit", x, Edges.INDEX, () -> x.limit(feed, 0));
        }
        for (int slot : new int[] {-1, 2}) {
            Checks.dueThrow("keep", x, Edges.INDEX, () -> x.keep(slot));
            Checks.dueThrow("restore", x, Edges.INDEX, () -> x.restore(slot));
        }
    }

    @Sentence(promise = 2, value = "Appends 20 bytes to the input buffer: the 4 bytes of each argument, the most "
            + "significant byte first.")
    private static void appendedBytes() {
        LampStrip x = new LampStrip();
        x.append(0x73747269, 0x70203130, 0x2039393b, 0x6c657665, 0x6c203132);
        x.append(0x333b6665, 0x65642037, 0x20383938, 0x373b2020, 0x20202020);
        due("in their order", x.load(40), 10);
        due("the unit", x.state(1), 99);
        due("over the edge of an append", x.state(2), 123);
        due("a pixel", x.feed(1, 0), 7);
        due("a limit", x.feed(1, 1), 8987);
        int[] negative = {0x80202020, 0xff202020, 0xa0202020, 0xf3686f77};
        for (int word : negative) {
            for (int place = 0; place < 5; place++) {
                int[] words = {Edges.SPACES, Edges.SPACES, Edges.SPACES, Edges.SPACES, Edges.SPACES};
                words[place] = word;
                x.append(words[0], words[1], words[2], words[3], words[4]);
                due("a byte above 127", x.run(20), Edges.SYNTAX);
                due("where it is", x.errorOffset(), 4 * place);
            }
        }
        for (int at = 0; at < 20; at++) {
            int[] words = {Edges.SPACES, Edges.SPACES, Edges.SPACES, Edges.SPACES, Edges.SPACES};
            words[at / 4] ^= (0x20 ^ 0x21) << (24 - 8 * (at % 4));
            x.append(words[0], words[1], words[2], words[3], words[4]);
            due("another byte at " + at, x.run(20), Edges.SYNTAX);
            due("its place", x.errorOffset(), at);
        }
    }

    @Sentence(promise = 2, value = "Returns the new length of the buffer; -1 if it would exceed 600 bytes, and the "
            + "buffer is unchanged then.")
    private static void appendUpTo600() {
        LampStrip x = new LampStrip();
        for (int n = 1; n <= 30; n++) {
            due("append " + n, x.append(Edges.SPACES, Edges.SPACES, Edges.SPACES, Edges.SPACES, Edges.SPACES), 20 * n);
        }
        for (int n = 0; n < 3; n++) {
            due("one more", x.append(0x21212121, 0x21212121, 0x21212121, 0x21212121, 0x21212121), -1);
        }
        due("the same spaces", x.run(600), 0);
        due("empty again", x.append(0, 0, 0, 0, 0), 20);
        Edges.harmless("a refused append", EdgeCallsTest::full, y -> y.append(0x21212121, 0, 0, 0, 0));
        LampStrip y = full();
        y.append(0x21212121, 0, 0, 0, 0);
        Checks.dueThrow("it is no longer", y, Edges.ARGUMENT, () -> y.run(601));
        due("all of it", y.run(600), 2);
    }

    /** A rich object with a script of 600 bytes, whose last one counts. */
    private static LampStrip full() {
        LampStrip x = Edges.rich();
        Checks.put(x, "shift 1;" + Edges.times(584, " ") + "level 7;");
        return x;
    }

    @Sentence(promise = 7, value = "`what`: 0 pixels, 1 the unit, 2 the level, 3 feeds, 4 bypassed pixels, 5 how "
            + "often a frame was shown since the latest successful load, 6 wrong pixels, 7 the current now, 8 the "
            + "account: the sum of the currents behind each time a frame was shown (since then, too), 9 bad pixels "
            + "that are not bypassed")
    private static void statesOfEachKind() {
        LampStrip x = Checks.made("strip 40 100;" + Edges.bad(10) + "fill 0 39 255 255 255;feed 10 9999;level 254;");
        int[] fresh = {40, 100, 254, 2, 0, 0, 7, 0, 0, 10};
        for (int what = 0; what <= 9; what++) {
            due("a fresh one: state(" + what + ")", x.state(what), fresh[what]);
        }
        for (int pixel = 0; pixel < 10; pixel++) {
            x.bypass(pixel, true);
        }
        x.level(255);
        x.show(50);
        x.level(0);
        Checks.run(x, "show;show;");
        int[] then = {40, 100, 0, 2, 10, 52, 0, 0, 150000, 0};
        for (int what = 0; what <= 9; what++) {
            due("behind 52 times: state(" + what + ")", x.state(what), then[what]);
        }
        Checks.load(x, "strip 2 2;what");
        due("a text with an error ends no count", x.state(5), 52);
        due("nor the account", x.state(8), 150000);
        due("the next show", x.show(1), 0);
        due("counts on", x.state(5), 53);
        Checks.load(x, "strip 1 1;fill 0 0 255 255 255;");
        due("shown since the load", x.state(5), 0);
        due("the account since the load", x.state(8), 0);
        x.show(3);
        due("shown since then", x.state(5), 3);
        due("the account since then", x.state(8), 3);
        x.undo();
        x.undo();
        due("shown, as it was ahead of the load", x.state(5), 53);
        due("the account, as it was ahead of the load", x.state(8), 150000);
    }

    @Sentence(promise = 7, value = "Returns this number (the current is the sum, over all pixels, of (red + green + "
            + "blue of the color that it shows) * unit / 765).")
    private static void currentOfWhatIsShown() {
        LampStrip x = Checks.made("strip 6 100;feed 3 60;fill 0 2 0 0 7;fill 3 5 0 8 0;");
        due("nothing is shown", x.state(7), 0);
        x.show(1);
        due("700 / 765 is 0, 800 / 765 is 1", x.state(7), 3);
        x.limit(1, 2);
        due("of a load of 3 two are left, so 5 of 8", x.pixel(3, 4), 5 * 256);
        due("the current of what is shown", x.state(7), 0);
        x.limit(1, 3);
        x.bypass(3, true);
        x.damage(4, 1, 0);
        due("only one shows", x.state(7), 1);
        x.damage(5, 2, 0);
        due("none shows", x.state(7), 0);
    }

    @Sentence(promise = 7, value = "Throws `IllegalArgumentException` if what is out of range")
    private static void rangeOfState() {
        range("state", 0, 9, Edges.ARGUMENT, (x, n) -> x.state(n));
    }

    @Sentence(promise = 8, value = "`what`: 0 its kind, 1 1 if it is bypassed, otherwise 0, 2 its period (0 if it "
            + "does not stutter), 3 its frames since the latest successful load, 4 the color that it shows, 5 the "
            + "color that it took last (black if none), 6 its due color, 7 the origin of the color that it took "
            + "last (-1 if none), 8 its color in the frame")
    private static void pixelsOfEachKind() {
        LampStrip x = Checks.made("strip 3 100;feed 1 10;bad 0 stutter 9;bad 2 dead;fill 0 2 200 100 0;level 255;");
        int[][] fresh = {{3, 0, 9, 0, 0, 0, 0, -1, 13132800}, {0, 0, 0, 0, 0, 0, 0, -1, 13132800},
            {1, 0, 0, 0, 0, 0, 0, -1, 13132800}};
        all(x, "a fresh one", fresh);
        x.show(9);
        x.bypass(2, true);
        x.fill(0, 0, 1, 2, 3);
        // Of a load of 39 pixel 1 has 10.
        int shared = Checks.color(51, 25, 0);
        int[][] then = {{3, 0, 9, 9, 13132800, 13132800, 13132800, 0, 66051},
            {0, 0, 0, 9, shared, 13132800, 13132800, 0, 13132800}, {1, 1, 0, 9, 0, 0, 13132800, -1, 13132800}};
        all(x, "behind 9 times", then);
        Checks.load(x, "strip 3 1;what");
        all(x, "behind a text with an error", then);
        Checks.load(x, "strip 3 1;");
        for (int pixel = 0; pixel < 3; pixel++) {
            due("frames since the load", x.pixel(pixel, 3), 0);
            due("no origin since the load", x.pixel(pixel, 7), -1);
            due("no color since the load", x.pixel(pixel, 5), 0);
        }
    }

    private static void all(LampStrip x, String when, int[][] wants) {
        for (int pixel = 0; pixel < wants.length; pixel++) {
            for (int what = 0; what <= 8; what++) {
                due(when + ": pixel(" + pixel + ", " + what + ")", x.pixel(pixel, what), wants[pixel][what]);
            }
        }
    }

    @Sentence(promise = 8, value = "Throws `IndexOutOfBoundsException` if there is no such pixel Throws "
            + "`IllegalArgumentException` if what is out of range")
    private static void rangesOfPixel() {
        range("pixel", 0, 11, Edges.INDEX, (x, n) -> x.pixel(n, 0));
        range("what", 0, 8, Edges.ARGUMENT, (x, n) -> x.pixel(0, n));
        range("what of the last pixel", 0, 8, Edges.ARGUMENT, (x, n) -> x.pixel(11, n));
        range("pixel, that comes first", 0, 11, Edges.INDEX, (x, n) -> x.pixel(n, n < 0 || n > 11 ? 9 : 8));
        Edges.refused("both below", Edges.INDEX, Edges::rich, x -> x.pixel(-1, -1));
    }

    @Sentence(promise = 9, value = "`what`: 0 its pixel, 1 its limit, 2 its load, 3 the last pixel that it feeds")
    private static void feedsOfEachKind() {
        LampStrip x = Checks.made("strip 40 100;feed 39 9999;feed 1 0;fill 0 39 255 255 255;");
        int[][] fresh = {{0, 9999, 0, 0}, {1, 0, 0, 38}, {39, 9999, 0, 39}};
        int[][] shown = {{0, 9999, 100, 0}, {1, 0, 3800, 38}, {39, 9999, 100, 39}};
        for (int feed = 0; feed < 3; feed++) {
            for (int what = 0; what <= 3; what++) {
                due("a fresh one: feed(" + feed + ", " + what + ")", x.feed(feed, what), fresh[feed][what]);
            }
        }
        x.show(1);
        for (int feed = 0; feed < 3; feed++) {
            for (int what = 0; what <= 3; what++) {
                due("shown: feed(" + feed + ", " + what + ")", x.feed(feed, what), shown[feed][what]);
            }
        }
    }

    @Sentence(promise = 9, value = "Throws `IndexOutOfBoundsException` if there is no such feed Throws "
            + "`IllegalArgumentException` if what is out of range")
    private static void rangesOfFeed() {
        range("feed", 0, 2, Edges.INDEX, (x, n) -> x.feed(n, 0));
        range("what", 0, 3, Edges.ARGUMENT, (x, n) -> x.feed(0, n));
        range("what of the last feed", 0, 3, Edges.ARGUMENT, (x, n) -> x.feed(2, n));
        range("feed, that comes first", 0, 2, Edges.INDEX, (x, n) -> x.feed(n, n < 0 || n > 2 ? 4 : 3));
        Edges.refused("both below", Edges.INDEX, Edges::rich, x -> x.feed(-1, -1));
        Edges.refused("a 2nd feed of a new object", Edges.INDEX, LampStrip::new, x -> x.feed(1, 0));
        LampStrip six = Checks.made("strip 6 1;feed 1 1;feed 2 2;feed 3 3;feed 4 4;feed 5 5;");
        due("the last one that there can be", six.feed(5, 1), 5);
        Checks.dueThrow("one more", six, Edges.INDEX, () -> six.feed(6, 1));
        Checks.load(six, "strip 6 1;feed 1 1;");
        Checks.dueThrow("one of the load ahead", six, Edges.INDEX, () -> six.feed(2, 1));
    }

    @Sentence(promise = 10, value = "Returns the first that applies: 1 it is bypassed, 2 it is dead, 3 it is burnt, "
            + "4 it never took a color, 5 the color that it took last is not its due color, and a dead pixel that "
            + "is not bypassed is ahead of it, 6 it is not its due color, and its origin is another pixel, 7 it is "
            + "not its due color, 8 its feed shares, 0 otherwise.")
    private static void firstReasonOfWhy() {
        LampStrip never = Checks.made("strip 4 1;bad 1 dead;bad 2 burnt;fill 0 3 255 255 255;");
        due("never took one", never.why(0), 4);
        due("dead ahead of never took one", never.why(1), 2);
        due("burnt ahead of never took one", never.why(2), 3);
        never.bypass(1, true);
        never.bypass(2, true);
        due("bypassed ahead of dead", never.why(1), 1);
        due("bypassed ahead of burnt", never.why(2), 1);
        never.bypass(1, false);
        never.show(1);
        due("never took one, ahead of a dead one ahead", never.why(3), 4);
        due("a right one ahead of a dead one", never.why(0), 0);

        LampStrip x = Checks.made("strip 4 100;feed 0 399;bad 0 stutter 2;" + Edges.ownColors(4));
        x.show(2);
        due("of another pixel", x.why(3), 6);
        x.damage(1, 1, 0);
        due("a dead one ahead, ahead of another origin", x.why(3), 5);
        due("a dead one ahead is not it itself", x.why(1), 2);
        due("nor one that is behind", x.why(0), 0);
        x.bypass(1, true);
        due("a bypassed dead one ahead does not count", x.why(3), 6);
        x.bypass(1, false);
        x.damage(1, 2, 0);
        due("nor does a burnt one", x.why(3), 6);
        due("burnt, ahead of another origin", x.why(1), 3);

        LampStrip y = Checks.made("strip 3 100;feed 0 299;fill 0 2 255 255 255;");
        y.show(1);
        due("its feed shares", y.why(0), 8);
        y.limit(0, 300);
        due("a load of its limit", y.why(0), 0);
        y.limit(0, 299);
        y.damage(0, 1, 0);
        y.limit(0, 199);
        due("it shares, and a dead one is ahead of one with its due color", y.why(2), 8);
        y.fill(2, 2, 1, 1, 1);
        y.show(1);
        due("its own color of another time, ahead of sharing", y.why(2), 5);
        y.bypass(0, true);
        due("not its due color, and no dead one counts", y.why(2), 7);
        y.bypass(1, true);
        y.limit(0, 0);
        due("not its due color, ahead of sharing", y.why(2), 7);
    }

    @Sentence(promise = 10, value = "8 its feed shares, 0 otherwise. Throws `IndexOutOfBoundsException` if there is "
            + "no such pixel")
    private static void rangeOfWhy() {
        range("why", 0, 11, Edges.INDEX, (x, n) -> x.why(n));
        Edges.refused("a 2nd pixel of a new object", Edges.INDEX, LampStrip::new, x -> x.why(1));
    }

    @Sentence(promise = 11, value = "Returns the origin of the color that it would take if the frame was shown now; "
            + "-1 if it would take none (as a dead or a bypassed one).")
    private static void originIfShownNow() {
        LampStrip x = Checks.made("strip 6 1;bad 0 stutter 2;bad 4 dead;" + Edges.ownColors(6));
        x.bypass(2, true);
        int[][] wants = {{0, 1, -1, 3, -1, -1}, {0, 0, -1, 1, -1, -1}};
        for (int time = 0; time < 4; time++) {
            for (int pixel = 0; pixel < 6; pixel++) {
                due("origin of " + pixel + " at " + time, x.origin(pixel), wants[time % 2][pixel]);
            }
            x.show(1);
            due("it was so", x.pixel(3, 7), wants[time % 2][3]);
        }
        due("it does not count frames", x.pixel(0, 3), 4);
        x.damage(4, 2, 0);
        due("a burnt one takes one", x.origin(4), 4);
        due("the one behind it", x.origin(5), 5);
        for (int pixel = 0; pixel < 6; pixel++) {
            x.bypass(pixel, true);
        }
        due("all are bypassed", x.origin(5), -1);
        LampStrip one = Checks.made("strip 1 1;bad 0 dead;");
        due("a dead one alone", one.origin(0), -1);
    }

    @Sentence(promise = 11, value = "-1 if it would take none (as a dead or a bypassed one). Throws "
            + "`IndexOutOfBoundsException` if there is no such pixel")
    private static void rangeOfOrigin() {
        range("origin", 0, 11, Edges.INDEX, (x, n) -> x.origin(n));
        Edges.refused("a 2nd pixel of a new object", Edges.INDEX, LampStrip::new, x -> x.origin(1));
        Edges.harmless("origin", Edges::richWithText, x -> x.origin(11));
    }

    @Sentence(promise = 12, value = "Returns the number of wrong pixels if the frame was shown so many times now.")
    private static void wrongInAsShown() {
        for (int times = 1; times <= 20; times++) {
            LampStrip x = Checks.made("strip 6 1;bad 0 stutter 2;bad 1 stutter 3;bad 2 stutter 7;"
                    + Edges.ownColors(6));
            x.show(2);
            x.fill(3, 3, 77, 77, 77);
            x.level(100);
            int foretold = x.wrongIn(times);
            due("wrongIn(" + times + ")", foretold, x.show(times));
        }
        LampStrip y = Checks.made("strip 3 1;fill 0 2 1 1 1;");
        due("each one takes its color", y.wrongIn(1), 0);
        y.damage(0, 1, 0);
        due("none takes one", y.wrongIn(20), 3);
    }

    @Sentence(promise = 12, value = "`times`: 1 to 20 Returns the number of wrong pixels if the frame was shown so "
            + "many times now. Throws `IllegalArgumentException` if times is out of range")
    private static void rangeOfWrongIn() {
        range("wrongIn", 1, 20, Edges.ARGUMENT, (x, n) -> x.wrongIn(n));
        Edges.harmless("wrongIn", Edges::richWithText, x -> x.wrongIn(20));
    }

    @Sentence(promise = 13, value = "Plans repairs: which of the bad pixels (dead, burnt or stuttering) that are "
            + "not bypassed to bypass, some number of them at most, so that the fewest pixels are wrong if the "
            + "frame is shown once then; of several such sets that with the fewest pixels, of several that with the "
            + "smallest sum.")
    private static void bestOfAllPlans() {
        String[] texts = {"", "fill 0 11 1 1 1;", "fill 6 6 9 9 9;", Edges.ownColors(12),
            "fill 2 9 5 5 5;fill 4 4 0 0 0;"};
        String[] kinds = {"bad 0 dead;bad 3 burnt;bad 11 dead;",
            "bad 2 stutter 2;bad 5 stutter 3;bad 7 dead;bad 8 burnt;",
            "bad 11 burnt;bad 10 burnt;bad 9 burnt;bad 1 stutter 2;",
            "bad 4 stutter 2;bad 5 stutter 2;bad 6 stutter 2;", "bad 0 stutter 3;bad 2 stutter 2;",
            "bad 1 burnt;bad 6 dead;"};
        for (String kind : kinds) {
            for (String text : texts) {
                for (int shown = 0; shown < 3; shown++) {
                    LampStrip x = Checks.made("strip 12 1;" + kind + text);
                    for (int n = 0; n < shown; n++) {
                        x.show(1);
                    }
                    for (int many = 0; many <= 4; many++) {
                        due("plan(" + many + ") of " + kind + text + shown, x.plan(many), planned(x, many));
                    }
                }
            }
        }
    }

    /** The best set, found by bypassing each one for once. */
    private static long planned(LampStrip x, int many) {
        x.keep(1);
        int[] bad = new int[10];
        int size = 0;
        for (int pixel = 0; pixel < x.state(0); pixel++) {
            if (x.pixel(pixel, 0) != 0 && x.pixel(pixel, 1) == 0) {
                bad[size] = pixel;
                size++;
            }
        }
        long best = -1;
        int fewest = 100;
        for (int set = 0; set < 1 << size; set++) {
            long sum = 0;
            for (int i = 0; i < size; i++) {
                if ((set >> i & 1) == 1) {
                    x.bypass(bad[i], true);
                    sum += 1L << bad[i];
                }
            }
            int wrong = x.show(1);
            x.restore(1);
            boolean isLess = Long.bitCount(sum) < Long.bitCount(best)
                    || Long.bitCount(sum) == Long.bitCount(best) && sum < best;
            if (Long.bitCount(sum) <= many && (wrong < fewest || wrong == fewest && isLess)) {
                best = sum;
                fewest = wrong;
            }
        }
        return best;
    }

    @Sentence(promise = 13, value = "Returns the sum of 2^pixel over the set.")
    private static void plansOfFewAndMany() {
        due("of a new object", new LampStrip().plan(10), 0);
        due("no bad pixel", Checks.made("strip 40 1;").plan(10), 0);
        LampStrip x = Checks.made("strip 40 1;bad 39 dead;");
        due("none at most", x.plan(0), 0);
        due("the last pixel", x.plan(1), 1L << 39);
        due("more than there are", x.plan(10), 1L << 39);
        x.bypass(39, true);
        due("it is bypassed already", x.plan(10), 0);
        StringBuilder text = new StringBuilder("strip 40 1;");
        for (int pixel = 30; pixel < 40; pixel++) {
            text.append("bad ").append(pixel).append(" burnt;");
        }
        LampStrip y = Checks.made(text.toString());
        for (int many = 0; many <= 10; many++) {
            due("the " + many + " with the smallest sum", y.plan(many), ((1L << many) - 1) << 30);
        }
        y.damage(30, 0, 0);
        due("nine of them", y.plan(10), ((1L << 9) - 1) << 31);
        LampStrip dead = Checks.made("strip 40 1;bad 0 dead;bad 39 dead;fill 20 20 1 1 1;");
        due("both ends", dead.plan(2), 1L << 39 | 1);
        due("the better one of two", dead.plan(1), 1);
        LampStrip same = Checks.made("strip 3 1;bad 0 stutter 2;fill 0 2 1 1 1;");
        same.show(1);
        due("none, if a set is no better", same.plan(10), 0);
        // With 3 alone, or with 1 and 2, none is wrong: one pixel is fewer than two, though its sum is greater.
        LampStrip fewer = Checks.made("strip 4 1;bad 1 stutter 2;bad 2 stutter 2;bad 3 stutter 2;fill 0 0 2 2 2;"
                + "fill 3 3 2 2 2;");
        fewer.show(1);
        due("the fewest pixels ahead of the smallest sum", fewer.plan(10), 8);
    }

    @Sentence(promise = 13, value = "`many`: 0 to 10 Returns the sum of 2^pixel over the set. Throws "
            + "`IllegalArgumentException` if many is out of range")
    private static void rangeOfPlan() {
        range("plan", 0, 10, Edges.ARGUMENT, (x, n) -> x.plan(n));
        Edges.harmless("plan", Edges::richWithText, x -> x.plan(10));
        Edges.refused("11 of ten bad ones", Edges.ARGUMENT, Edges::tenBad, x -> x.plan(11));
        due("10 of ten bad ones", Edges.tenBad().plan(10), planned(Edges.tenBad(), 10));
    }

    @Sentence(promise = 14, value = "Returns the greatest level, 0 to 255, with which the load of no feed would be "
            + "greater than its limit, if each pixel that is good or stuttering, and not bypassed, had taken the "
            + "color of the frame with the curve; -1 if there is none.")
    private static void greatestLevels() {
        due("a load of the limit", levelOf("strip 1 100;feed 0 100;fill 0 0 255 255 255;"), 255);
        due("one less", levelOf("strip 1 100;feed 0 99;fill 0 0 255 255 255;"), 254);
        due("a limit of 0", levelOf("strip 1 100;feed 0 0;fill 0 0 255 255 255;"), 2);
        due("only level 0", levelOf("strip 1 100;feed 0 0;fill 0 0 1 1 1;curve level*255;"), 0);
        due("there is none", levelOf("strip 1 100;feed 0 99;curve 255;"), -1);
        due("also not at level 0", levelOf("strip 1 100;feed 0 0;curve 255-level/2;"), -1);
        due("a curve that falls", levelOf("strip 1 100;feed 0 0;curve 255-level;"), 255);
        due("a greater one is too much, again", levelOf("strip 1 100;feed 0 0;curve (level-7)*(level-7)*255;"), 7);
        // 3 * 130 * 100 / 765 is 50, of 131 it is 51.
        due("the last of two feeds", levelOf("strip 2 100;feed 1 50;fill 0 1 255 255 255;"), 130);
        due("the first of two feeds", levelOf("strip 2 100;feed 0 50;feed 1 100;fill 0 1 255 255 255;"), 130);
        due("a whole feed", levelOf("strip 40 100;feed 0 2000;fill 0 39 255 255 255;"), 130);
        due("a stuttering one", levelOf("strip 1 100;feed 0 50;bad 0 stutter 2;fill 0 0 255 255 255;"), 130);
        due("a dead one", levelOf("strip 1 100;feed 0 0;bad 0 dead;fill 0 0 255 255 255;"), 255);
        due("a burnt one", levelOf("strip 1 100;feed 0 0;bad 0 burnt;fill 0 0 255 255 255;"), 255);
        LampStrip x = Checks.made("strip 1 100;feed 0 0;fill 0 0 255 255 255;");
        x.bypass(0, true);
        due("a bypassed one", x.greatestLevel(), 255);
        due("a new object", new LampStrip().greatestLevel(), 255);
        LampStrip behind = Checks.made("strip 2 100;feed 1 50;bad 0 dead;fill 1 1 255 255 255;");
        behind.show(1);
        due("one to which no color comes", behind.greatestLevel(), 130);
        Edges.harmless("greatestLevel", Edges::richWithText, y -> y.greatestLevel());
    }

    private static int levelOf(String text) {
        LampStrip x = Checks.made(text);
        int level = x.greatestLevel();
        due("also when it was shown: " + text, afterShow(x), level);
        return level;
    }

    private static int afterShow(LampStrip x) {
        x.level(13);
        x.show(2);
        return x.greatestLevel();
    }

    @Sentence(promise = 15, value = "Returns the current now and the sum of all limits, both converted to double "
            + "and divided; 0.0 if that sum is 0.")
    private static void usageOfLimits() {
        LampStrip x = Checks.made("strip 2 100;feed 0 0;feed 1 0;fill 0 1 255 255 255;");
        Checks.dueReal("no limits, nothing shown", x.usage(), 0.0);
        x.show(1);
        Checks.dueReal("no limits", x.usage(), 0.0);
        x.limit(1, 1);
        // Of 255 2 are left: 6 * 100 / 765 is 0.
        Checks.dueReal("a sum of 1", x.usage(), 0.0 / 1.0);
        x.limit(1, 3);
        Checks.dueReal("7 are left, so 2 of 3", x.usage(), 2.0 / 3.0);
        x.limit(0, 9999);
        x.limit(1, 9999);
        Checks.dueReal("the greatest ones", x.usage(), 200.0 / 19998.0);
        x.limit(0, 0);
        x.limit(1, 100);
        Checks.dueReal("all of it", x.usage(), 1.0);
        Checks.dueReal("a new object", new LampStrip().usage(), 0.0);
        LampStrip six = Checks.made("strip 6 100;feed 0 9999;feed 1 9999;feed 2 9999;feed 3 9999;feed 4 9999;"
                + "feed 5 9999;fill 0 5 255 255 255;");
        six.show(1);
        Checks.dueReal("the greatest sum", six.usage(), 600.0 / 59994.0);
        Edges.harmless("usage", Edges::richWithText, y -> y.usage());
    }

    @Sentence(promise = 16, value = "Returns the number of colors of the frame that are other ones then.")
    private static void fillReturns() {
        LampStrip x = Checks.made("strip 40 1;");
        due("black ones stay", x.fill(0, 39, 0, 0, 0), 0);
        due("all of them", x.fill(0, 39, 0, 0, 1), 40);
        due("none of them", x.fill(0, 39, 0, 0, 1), 0);
        due("the last one", x.fill(39, 39, 1, 0, 1), 1);
        due("the first one", x.fill(0, 0, 0, 1, 1), 1);
        due("all but these", x.fill(0, 39, 0, 0, 2), 40);
        due("two of three", x.fill(37, 38, 9, 9, 9) + x.fill(37, 39, 9, 9, 9), 3);
        due("the one ahead stays", x.pixel(36, 8), 2);
    }

    @Sentence(promise = 16, value = "`from`: the first pixel - `to`: the last pixel")
    private static void pixelsOfFill() {
        range("from", 0, 11, Edges.INDEX, (x, n) -> x.fill(n, 11, 1, 1, 1));
        range("to", 0, 11, Edges.INDEX, (x, n) -> x.fill(0, n, 1, 1, 1));
        int[][] ranges = {{0, 0}, {0, 11}, {11, 11}, {10, 11}, {5, 6}};
        for (int[] range : ranges) {
            LampStrip x = Checks.made("strip 12 1;fill 0 11 9 9 9;");
            due("how many", x.fill(range[0], range[1], 1, 2, 3), range[1] - range[0] + 1);
            for (int pixel = 0; pixel < 12; pixel++) {
                boolean isIn = pixel >= range[0] && pixel <= range[1];
                due("frame of " + pixel, x.pixel(pixel, 8), isIn ? Checks.color(1, 2, 3) : Checks.color(9, 9, 9));
            }
        }
    }

    @Sentence(promise = 16, value = "`red`: 0 to 255 - `green`: 0 to 255 - `blue`: 0 to 255")
    private static void channelsOfFill() {
        range("red", 0, 255, Edges.ARGUMENT, (x, n) -> x.fill(0, 11, n, 1, 1));
        range("green", 0, 255, Edges.ARGUMENT, (x, n) -> x.fill(0, 11, 1, n, 1));
        range("blue", 0, 255, Edges.ARGUMENT, (x, n) -> x.fill(0, 11, 1, 1, n));
    }

    @Sentence(promise = 16, value = "Throws `IndexOutOfBoundsException` if there are no such pixels Throws "
            + "`IllegalArgumentException` if from is greater than to, or a channel is out of range")
    private static void orderOfFill() {
        Edges.refused("from greater than to by 1", Edges.ARGUMENT, Edges::richWithText, x -> x.fill(1, 0, 1, 1, 1));
        Edges.refused("the last and the first one", Edges.ARGUMENT, Edges::richWithText, x -> x.fill(11, 0, 1, 1, 1));
        Edges.refused("from comes ahead of a channel", Edges.INDEX, Edges::rich, x -> x.fill(12, 11, 256, 1, 1));
        Edges.refused("to comes ahead of a channel", Edges.INDEX, Edges::rich, x -> x.fill(0, 12, 1, -1, 1));
        Edges.refused("to comes ahead of their order", Edges.INDEX, Edges::rich, x -> x.fill(1, -1, 1, 1, 256));
        Edges.refused("from comes ahead of their order", Edges.INDEX, Edges::rich, x -> x.fill(12, 0, 1, 1, 1));
    }

    @Sentence(promise = 17, value = "Moves all colors of the frame by some pixels to higher indexes; those that "
            + "leave it come in again at pixel 0.")
    private static void shiftGoesRound() {
        for (int pixels : new int[] {1, 2, 7, 39, 40}) {
            for (int by : new int[] {0, 1, pixels - 1, pixels, pixels + 1, 9998, 9999}) {
                LampStrip x = Checks.made("strip " + pixels + " 1;");
                for (int pixel = 0; pixel < pixels; pixel++) {
                    x.fill(pixel, pixel, 0, 0, pixel + 1);
                }
                int first = x.shift(by);
                due("the first one of " + pixels + " by " + by, first, x.pixel(0, 8));
                for (int pixel = 0; pixel < pixels; pixel++) {
                    due(pixel + " of " + pixels + " by " + by, x.pixel((pixel + by) % pixels, 8), pixel + 1);
                }
            }
        }
    }

    @Sentence(promise = 17, value = "`by`: 0 to 9999 Returns the color of pixel 0 in the frame then. Throws "
            + "`IllegalArgumentException` if by is out of range")
    private static void rangeOfShift() {
        range("shift", 0, 9999, Edges.ARGUMENT, (x, n) -> x.shift(n));
    }

    @Sentence(promise = 18, value = "`level`: 0 to 255 Returns the previous one. Throws `IllegalArgumentException` "
            + "if level is out of range")
    private static void rangeOfLevel() {
        range("level", 0, 255, Edges.ARGUMENT, (x, n) -> x.level(n));
        LampStrip x = new LampStrip();
        due("the first one", x.level(0), 255);
        due("the least one", x.level(255), 0);
        due("the greatest one", x.level(255), 255);
        Checks.dueThrow("a refused one", x, Edges.ARGUMENT, () -> x.level(256));
        due("it is not the previous one", x.level(1), 255);
    }

    @Sentence(promise = 19, value = "Returns the number of wrong pixels then.")
    private static void showReturns() {
        LampStrip x = Checks.made("strip 40 1;" + Edges.ownColors(20));
        due("none", x.show(1), 0);
        due("none, behind many", x.show(50), 0);
        x.damage(0, 1, 0);
        x.fill(0, 39, 7, 7, 7);
        due("all", x.show(50), 40);
        due("as state tells", x.state(6), 40);
    }

    @Sentence(promise = 19, value = "`times`: how often, 1 to 50 Returns the number of wrong pixels then. Throws "
            + "`IllegalArgumentException` if times is out of range")
    private static void rangeOfShow() {
        range("show", 1, 50, Edges.ARGUMENT, (x, n) -> x.show(n));
        for (int times : new int[] {1, 2, 49, 50}) {
            LampStrip x = Checks.made("strip 1 1;fill 0 0 255 255 255;");
            x.show(times);
            due("so often", x.state(5), times);
            due("frames", x.pixel(0, 3), times);
            due("account", x.state(8), times);
            due("one change", x.undo(), 1);
            due("all undone", x.state(5), 0);
        }
    }

    @Sentence(promise = 20, value = "Returns whether it was bypassed before. Throws `IndexOutOfBoundsException` if "
            + "there is no such pixel")
    private static void rangeOfBypass() {
        range("bypass, true", 0, 11, Edges.INDEX, (x, n) -> x.bypass(n, true));
        range("bypass, false", 0, 11, Edges.INDEX, (x, n) -> x.bypass(n, false));
        LampStrip x = Checks.made("strip 40 1;");
        for (int pixel : new int[] {0, 31, 32, 39}) {
            due("not yet", x.bypass(pixel, false) ? 1 : 0, 0);
            due("still not", x.bypass(pixel, true) ? 1 : 0, 0);
            due("it was", x.bypass(pixel, true) ? 1 : 0, 1);
            due("it alone", x.state(4), 1);
            due("it itself", x.pixel(pixel, 1), 1);
            due("it still was", x.bypass(pixel, false) ? 1 : 0, 1);
            due("not any more", x.bypass(pixel, false) ? 1 : 0, 0);
            due("none", x.state(4), 0);
        }
    }

    @Sentence(promise = 21, value = "Sets the kind of a pixel (its frames, the color that it took last, its origin "
            + "and its bypass stay).")
    private static void damageLeavesTheRest() {
        for (int kind = 0; kind <= 3; kind++) {
            for (int other = 0; other <= 3; other++) {
                LampStrip x = Checks.made("strip 2 1;bad 0 stutter 2;" + Edges.ownColors(2));
                x.show(2);
                x.bypass(1, kind % 2 == 0);
                due("the first kind", x.damage(1, kind, kind == 3 ? 9 : 0), 0);
                due("the kind before", x.damage(1, other, other == 3 ? 2 : 0), kind);
                int[] wants = {other, kind % 2 == 0 ? 1 : 0, other == 3 ? 2 : 0, 2};
                for (int what = 0; what <= 3; what++) {
                    due("pixel(1, " + what + ")", x.pixel(1, what), wants[what]);
                }
                due("the color that it took", x.pixel(1, 5), 1);
                due("its due color", x.pixel(1, 6), 2);
                due("its origin", x.pixel(1, 7), 0);
                due("its color in the frame", x.pixel(1, 8), 2);
            }
        }
    }

    @Sentence(promise = 21, value = "`kind`: 0 to 3 - `period`: 2 to 9 for a stuttering pixel, 0 for others")
    private static void rangesOfDamage() {
        range("pixel", 0, 11, Edges.INDEX, (x, n) -> x.damage(n, 1, 0));
        range("kind", 0, 2, Edges.ARGUMENT, (x, n) -> x.damage(0, n, 0));
        Edges.richWithText().damage(0, 3, 2);
        Edges.refused("kind 4", Edges.ARGUMENT, Edges::richWithText, x -> x.damage(0, 4, 0));
        Edges.refused("kind 4 with a period", Edges.ARGUMENT, Edges::richWithText, x -> x.damage(0, 4, 2));
        Edges.refused("kind -1 with a period", Edges.ARGUMENT, Edges::richWithText, x -> x.damage(0, -1, 2));
        range("period of a stuttering one", 2, 9, Edges.ARGUMENT, (x, n) -> x.damage(0, 3, n));
        Edges.refused("no period of a stuttering one", Edges.ARGUMENT, Edges::richWithText, x -> x.damage(0, 3, 0));
        for (int kind = 0; kind <= 2; kind++) {
            int same = kind;
            range("period of another one", 0, 0, Edges.ARGUMENT, (x, n) -> x.damage(0, same, n));
            Edges.refused("2 of another one", Edges.ARGUMENT, Edges::richWithText, x -> x.damage(0, same, 2));
            Edges.refused("9 of another one", Edges.ARGUMENT, Edges::richWithText, x -> x.damage(0, same, 9));
        }
    }

    @Sentence(promise = 21, value = "Throws `IllegalStateException` if it would be the 11th bad pixel (bypassed "
            + "ones counted)")
    private static void eleventhBadPixel() {
        Edges.refused("a dead one", Edges.STATE, Edges::tenBad, x -> x.damage(10, 1, 0));
        Edges.refused("a burnt one", Edges.STATE, Edges::tenBad, x -> x.damage(11, 2, 0));
        Edges.refused("a stuttering one", Edges.STATE, Edges::tenBad, x -> x.damage(10, 3, 2));
        LampStrip bypassed = Edges.tenBad();
        bypassed.bypass(10, true);
        Checks.dueThrow("one that is bypassed itself", bypassed, Edges.STATE, () -> bypassed.damage(10, 1, 0));
        LampStrip x = Edges.tenBad();
        due("a good one stays good", x.damage(10, 0, 0), 0);
        due("a bad one gets another kind", x.damage(9, 3, 2), 1);
        due("a bypassed bad one gets another kind", x.damage(0, 2, 0), 1);
        due("a bypassed one is mended", x.damage(0, 0, 0), 2);
        due("so a 10th one may come", x.damage(10, 1, 0), 0);
        Checks.dueThrow("the next one may not", x, Edges.STATE, () -> x.damage(11, 1, 0));
        LampStrip nine = Checks.made("strip 12 1;" + Edges.bad(9));
        due("the 10th", nine.damage(11, 1, 0), 0);
        Checks.dueThrow("the 11th", nine, Edges.STATE, () -> nine.damage(10, 1, 0));
        nine.undo();
        due("the 10th, as it was undone", nine.damage(10, 1, 0), 0);
    }

    @Sentence(promise = 21, value = "Throws `IndexOutOfBoundsException` if there is no such pixel Throws "
            + "`IllegalArgumentException` if kind or period is not as told Throws `IllegalStateException` if it "
            + "would be the 11th bad pixel")
    private static void orderOfDamage() {
        Edges.refused("pixel ahead of kind", Edges.INDEX, Edges::tenBad, x -> x.damage(12, 4, 0));
        Edges.refused("pixel ahead of period", Edges.INDEX, Edges::tenBad, x -> x.damage(-1, 3, 0));
        Edges.refused("pixel ahead of the 11th", Edges.INDEX, Edges::tenBad, x -> x.damage(12, 1, 0));
        Edges.refused("kind ahead of the 11th", Edges.ARGUMENT, Edges::tenBad, x -> x.damage(10, 4, 0));
        Edges.refused("kind below ahead of the 11th", Edges.ARGUMENT, Edges::tenBad, x -> x.damage(10, -1, 0));
        Edges.refused("period ahead of the 11th", Edges.ARGUMENT, Edges::tenBad, x -> x.damage(10, 3, 10));
        Edges.refused("period below ahead of the 11th", Edges.ARGUMENT, Edges::tenBad, x -> x.damage(10, 3, 1));
        Edges.refused("period of a dead one ahead of the 11th", Edges.ARGUMENT, Edges::tenBad, x -> x.damage(10, 1, 2));
    }

    @Sentence(promise = 22, value = "`limit`: 0 to 9999 Returns the previous one. Throws "
            + "`IndexOutOfBoundsException` if there is no such feed Throws `IllegalArgumentException` if limit is "
            + "out of range")
    private static void rangesOfLimit() {
        range("feed", 0, 2, Edges.INDEX, (x, n) -> x.limit(n, 7));
        range("limit", 0, 9999, Edges.ARGUMENT, (x, n) -> x.limit(0, n));
        range("limit of the last feed", 0, 9999, Edges.ARGUMENT, (x, n) -> x.limit(2, n));
        Edges.refused("feed ahead of limit", Edges.INDEX, Edges::richWithText, x -> x.limit(3, 10000));
        Edges.refused("feed below ahead of limit", Edges.INDEX, Edges::richWithText, x -> x.limit(-1, -1));
        Edges.refused("a 2nd feed of a new object", Edges.INDEX, LampStrip::new, x -> x.limit(1, 1));
        LampStrip x = Checks.made("strip 6 1;feed 1 1;feed 2 2;feed 3 3;feed 4 4;feed 5 5;");
        for (int feed = 5; feed >= 0; feed--) {
            due("the previous one", x.limit(feed, 9999 - feed), feed == 0 ? 9999 : feed);
            due("the new one", x.feed(feed, 1), 9999 - feed);
        }
        Checks.dueThrow("a 7th feed", x, Edges.INDEX, () -> x.limit(6, 1));
        due("the least one", x.limit(5, 0), 9994);
        due("behind the least one", x.limit(5, 1), 0);
    }

    @Sentence(promise = 23, value = "`slot`: 0 or 1 Returns the number of wrong pixels. Throws "
            + "`IndexOutOfBoundsException` if there is no such slot")
    private static void rangeOfKeep() {
        range("keep", 0, 1, Edges.INDEX, (x, n) -> x.keep(n));
        due("none is wrong", new LampStrip().keep(0), 0);
        due("all are wrong", wrongOnes().keep(1), 40);
    }

    private static LampStrip wrongOnes() {
        LampStrip x = Checks.made("strip 40 1;bad 0 dead;fill 0 39 1 1 1;");
        x.show(1);
        return x;
    }

    @Sentence(promise = 24, value = "`slot`: 0 or 1 Returns the number of wrong pixels then. Throws "
            + "`IndexOutOfBoundsException` if there is no such slot Throws `NoSuchElementException` if the slot is "
            + "empty")
    private static void rangeOfRestore() {
        range("restore", 0, 0, Edges.ELEMENT, (x, n) -> x.restore(n == 0 ? 0 : 1));
        for (int slot : new int[] {-1, 2, FAR[0], FAR[1]}) {
            Edges.refused("restore(" + slot + ")", Edges.INDEX, Edges::richWithText, x -> x.restore(slot));
            Edges.refused("restore(" + slot + ") of a new object", Edges.INDEX, LampStrip::new, x -> x.restore(slot));
        }
        for (int slot = 0; slot < 2; slot++) {
            int same = slot;
            Edges.refused("an empty slot", Edges.ELEMENT, LampStrip::new, x -> x.restore(same));
            LampStrip x = new LampStrip();
            x.keep(1 - slot);
            Checks.dueThrow("the other one is empty", x, Edges.ELEMENT, () -> x.restore(same));
            due("this one is not", x.restore(1 - slot), 0);
            x.undo();
            Checks.dueThrow("still empty", x, Edges.ELEMENT, () -> x.restore(same));
        }
        LampStrip wrong = wrongOnes();
        wrong.keep(0);
        Checks.load(wrong, "strip 1 1;");
        due("the number of wrong pixels then", wrong.restore(0), 40);
    }

    @Sentence(promise = 26, value = "It starts at 0; each number n in the following order replaces it by 31 * "
            + "checksum + n, wrapping around on overflow of a long: state(0) to state(9); for each pixel what "
            + "pixel(int, int) tells of it for 0 to 8; for each feed what feed(int, int) tells of it for 0 to 3.")
    private static void checksumWrapsAround() {
        LampStrip[] objects = {new LampStrip(), Edges.rich(), Edges.tenBad(), wrongOnes(), Checks.made("strip 40 100;"),
            Checks.made("strip 6 1;feed 1 1;feed 2 2;feed 3 3;feed 4 4;feed 5 5;")};
        for (LampStrip x : objects) {
            BigInteger sum = BigInteger.ZERO;
            for (int what = 0; what <= 9; what++) {
                sum = next(sum, x.state(what));
            }
            for (int pixel = 0; pixel < x.state(0); pixel++) {
                for (int what = 0; what <= 8; what++) {
                    sum = next(sum, x.pixel(pixel, what));
                }
            }
            for (int feed = 0; feed < x.state(3); feed++) {
                for (int what = 0; what <= 3; what++) {
                    sum = next(sum, x.feed(feed, what));
                }
            }
            Checks.dueTrue("it is beyond a long", sum.bitLength() > 63);
            due("of " + x.state(0) + " pixels", x.checksum(), sum.longValue());
        }
        Edges.harmless("checksum", Edges::richWithText, x -> x.checksum());
    }

    private static BigInteger next(BigInteger sum, int number) {
        return sum.multiply(BigInteger.valueOf(31)).add(BigInteger.valueOf(number));
    }
}
