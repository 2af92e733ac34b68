import java.util.NoSuchElementException;

/** The 26 promises one by one: ordinary inputs, the edges that the document names, and wrong inputs. */
public final class PromiseTest {
    private static final Class<?> ARGUMENT = IllegalArgumentException.class;
    private static final Class<?> INDEX = IndexOutOfBoundsException.class;

    private PromiseTest() {
    }

    public static void main(String[] args) {
        promise1NewObject();
        promise2Append();
        promise3Load();
        promise3LoadReplacesAll();
        promise4Run();
        promise4RunLimits();
        promise5ErrorOffset();
        promise6Ending();
        promise7State();
        promise8Pixel();
        promise9Feed();
        promise9SharedColors();
        promise10Why();
        promise11Origin();
        promise12WrongIn();
        promise13Plan();
        promise13PlanTies();
        promise14GreatestLevel();
        promise14OddCurves();
        promise15Usage();
        promise16Fill();
        promise17Shift();
        promise18Level();
        promise19Show();
        promise19Curves();
        promise20Bypass();
        promise21Damage();
        promise22Limit();
        promise23And24KeepAndRestore();
        promise25Undo();
        promise25WhatIsAChange();
        promise26Checksum();
        Checks.end();
    }

    private static void due(String what, long got, long want) {
        Checks.due(what, got, want);
    }

    private static void promise1NewObject() {
        LampStrip x = new LampStrip();
        int[] states = {1, 1, 255, 1, 0, 0, 0, 0, 0, 0};
        for (int what = 0; what < states.length; what++) {
            due("1: state(" + what + ")", x.state(what), states[what]);
        }
        int[] pixels = {0, 0, 0, 0, 0, 0, 0, -1, 0};
        for (int what = 0; what < pixels.length; what++) {
            due("1: pixel(0, " + what + ")", x.pixel(0, what), pixels[what]);
        }
        int[] feeds = {0, 9999, 0, 0};
        for (int what = 0; what < feeds.length; what++) {
            due("1: feed(0, " + what + ")", x.feed(0, what), feeds[what]);
        }
        due("1: errorOffset", x.errorOffset(), -1);
        due("1: ending", x.ending(), 0);
        due("1: undo", x.undo(), -1);
        Checks.dueThrow("1: both slots are empty", x, NoSuchElementException.class, () -> x.restore(0));
        Checks.dueThrow("1: both slots are empty", x, NoSuchElementException.class, () -> x.restore(1));
        Checks.dueThrow("1: an empty buffer", x, ARGUMENT, () -> x.load(1));
    }

    private static void promise2Append() {
        LampStrip x = new LampStrip();
        due("2: first append", x.append(0x73747269, 0x70203420, 0x393b2020, 0x20202020, 0x20202020), 20);
        due("2: the bytes in their order", x.load(10), 4);
        due("2: they are the unit, too", x.state(1), 9);
        for (int n = 1; n <= 30; n++) {
            due("2: append " + n, x.append(0x20202020, 0x20202020, 0x20202020, 0x20202020, 0x20202020), 20 * n);
        }
        due("2: beyond 600", x.append(0x21212121, 0x21212121, 0x21212121, 0x21212121, 0x21212121), -1);
        Checks.dueThrow("2: no more than 600", x, ARGUMENT, () -> x.run(601));
        due("2: unchanged by the refused one", x.run(600), 0);
        due("2: empty again", x.append(-1, Integer.MIN_VALUE, 0, 0x80ffffff, 1), 20);
        due("2: a byte above 127", x.load(20), LampStrip.SYNTAX_ERROR);
        due("2: its offset", x.errorOffset(), 0);
    }

    private static void promise3Load() {
        LampStrip x = new LampStrip();
        due("3: pixels", Checks.load(x, "strip 40 100;"), 40);
        due("3: one pixel", Checks.load(x, "strip 1 1;"), 1);
        due("3: without spaces", Checks.load(x, "strip3 7;level9;fill1 2 3 4 5;curve3;bad0stutter2;feed1 8;"), 3);
        due("3: level", x.state(2), 9);
        due("3: fill", x.pixel(2, 8), Checks.color(3, 4, 5));
        due("3: fill from", x.pixel(0, 8), 0);
        due("3: bad", x.pixel(0, 0), 3);
        due("3: period", x.pixel(0, 2), 2);
        due("3: feed", x.feed(1, 1), 8);
        due("3: many spaces", Checks.load(x, "   strip  5   6  ; level 3 ;  feed 0 4   ;   "), 5);
        due("3: feed 0", x.feed(0, 1), 4);
        due("3: leading zeros", Checks.load(x, "strip 0000000000000000000000000000000040 01;"), 40);
        due("3: empty", Checks.load(x, ""), LampStrip.SYNTAX_ERROR);
        due("3: empty, offset", x.errorOffset(), 0);
        due("3: an error changes nothing", x.state(0), 40);
        Checks.put(x, "strip 2 2;strip");
        due("3: only the first bytes", x.load(10), 2);
        Checks.dueThrow("3: the buffer is empty behind it", x, ARGUMENT, () -> x.load(1));
        Checks.put(x, "nothing");
        due("3: an error", x.load(3), LampStrip.SYNTAX_ERROR);
        Checks.dueThrow("3: the buffer is empty behind an error", x, ARGUMENT, () -> x.load(1));
        Checks.put(x, "strip 7 2;");
        Checks.dueThrow("3: negative", x, ARGUMENT, () -> x.load(-1));
        Checks.dueThrow("3: too great", x, ARGUMENT, () -> x.load(21));
        Checks.dueThrow("3: the least int", x, ARGUMENT, () -> x.load(Integer.MIN_VALUE));
        Checks.dueThrow("3: the greatest int", x, ARGUMENT, () -> x.load(Integer.MAX_VALUE));
        due("3: the buffer stays behind an exception", x.load(20), 7);
    }

    private static void promise3LoadReplacesAll() {
        LampStrip x = Checks.made("strip 4 9;feed 2 5;bad 1 dead;level 7;curve 9;fill 0 3 1 2 3;");
        x.show(3);
        x.bypass(0, true);
        x.keep(0);
        x.wrongIn(7);
        x.plan(1);
        x.damage(2, 3, 5);
        x.wrongIn(7);
        due("3: again", Checks.load(x, "strip 5 8;"), 5);
        int[] states = {5, 8, 255, 1, 0, 0, 0, 0, 0, 0};
        for (int what = 0; what < states.length; what++) {
            due("3: state(" + what + ") is new", x.state(what), states[what]);
        }
        for (int pixel = 0; pixel < 5; pixel++) {
            for (int what = 0; what <= 8; what++) {
                due("3: pixel " + pixel + ", " + what, x.pixel(pixel, what), what == 7 ? -1 : 0);
            }
        }
        due("3: limit", x.feed(0, 1), 9999);
        x.fill(0, 0, 200, 200, 200);
        x.show(1);
        due("3: no curve is left", x.pixel(0, 5), Checks.color(200, 200, 200));
        x.restore(0);
        due("3: the slots stay", x.state(5), 3);
    }

    private static void promise4Run() {
        LampStrip x = Checks.made("strip 3 10;");
        due("4: empty", Checks.run(x, ""), 0);
        due("4: spaces", Checks.run(x, "   "), 0);
        due("4: all commands", Checks.run(x, "fill 0 1 9 8 7;shift 1;level 100;show;bypass 0;"), 5);
        due("4: shift", x.pixel(2, 8), Checks.color(9, 8, 7));
        due("4: fill, up to the last one", x.pixel(0, 8), 0);
        due("4: level", x.state(2), 100);
        due("4: show", x.state(5), 1);
        due("4: bypass", x.pixel(0, 1), 1);
        due("4: shown ahead of the bypass", x.pixel(0, 3), 1);
        due("4: repeats", Checks.run(x, "repeat2(show;repeat 3(shift 1;show;);) ; repeat 1();"), 14);
        due("4: shown", x.state(5), 9);
        due("4: bypass stays on", Checks.run(x, "bypass 0;bypass 0;"), 2);
        due("4: bypassed", x.state(4), 1);
        due("4: a repeat as a word at a number", Checks.run(x, "repeat20(show;);"), 20);
        long before = x.checksum();
        due("4: an error", Checks.run(x, "show;show;shows;"), LampStrip.SYNTAX_ERROR);
        due("4: changes nothing", x.checksum(), before);
        Checks.dueThrow("4: the buffer is empty", x, ARGUMENT, () -> x.run(1));
        Checks.put(x, "show;show;bad");
        Checks.dueThrow("4: negative", x, ARGUMENT, () -> x.run(-1));
        Checks.dueThrow("4: too great", x, ARGUMENT, () -> x.run(21));
        due("4: the first bytes of the same buffer", x.run(10), 2);
        Checks.dueThrow("4: the buffer is empty again", x, ARGUMENT, () -> x.run(1));
    }

    private static void promise4RunLimits() {
        LampStrip x = Checks.made("strip 3 10;");
        due("4: 200 are done", Checks.run(x, "repeat 20(repeat 20(show;););shift 1;"), 200);
        due("4: shown 200 times", x.state(5), 200);
        due("4: ended as told", x.ending(), 1);
        due("4: up to one that throws", Checks.run(x, "repeat 3(level 1;level 256;);show;"), 1);
        due("4: what was done stays", x.state(2), 1);
        due("4: one change", x.undo(), 2);
        due("4: undone whole", x.state(2), 255);
        StringBuilder text = new StringBuilder();
        for (int n = 0; n < 60; n++) {
            text.append("show;");
        }
        due("4: 60 commands", Checks.run(x, text.toString()), 60);
        String many = text.append("show;").toString();
        due("4: a 61st", Checks.run(x, many), LampStrip.TOO_MANY);
        due("4: its offset", x.errorOffset(), 300);
        due("4: three deep", Checks.run(x, "repeat 2(repeat 2(repeat 2(show;);););"), 8);
        due("4: four deep", Checks.run(x, "repeat 2(repeat 2(repeat 2( repeat 2(show;););););"), LampStrip.TOO_DEEP);
        due("4: its offset", x.errorOffset(), 28);
    }

    private static void promise5ErrorOffset() {
        LampStrip x = new LampStrip();
        Checks.load(x, "strip 1 1;what;");
        due("5: of load", x.errorOffset(), 10);
        Checks.dueThrow("5: load throws", x, ARGUMENT, () -> x.load(1));
        Checks.dueThrow("5: run throws", x, ARGUMENT, () -> x.run(-1));
        due("5: it stays when one throws", x.errorOffset(), 10);
        x.undo();
        due("5: undo does not change it", x.errorOffset(), 10);
        Checks.run(x, "show");
        due("5: of run, at the end", x.errorOffset(), 4);
        Checks.run(x, "");
        due("5: none of run", x.errorOffset(), -1);
        Checks.run(x, "level 10000;");
        due("5: a number", x.errorOffset(), 6);
        Checks.load(x, "strip 1 1;");
        due("5: none of load", x.errorOffset(), -1);
    }

    private static void promise6Ending() {
        LampStrip x = Checks.made("strip 2 1;");
        due("6: none was", x.ending(), 0);
        Checks.run(x, "fill 0 2 0 0 0;");
        due("6: no such pixel", x.ending(), 3);
        Checks.run(x, "sho;");
        due("6: an error leaves it", x.ending(), 3);
        Checks.load(x, "strip 2 1;");
        due("6: load leaves it", x.ending(), 3);
        x.undo();
        due("6: undo leaves it", x.ending(), 3);
        Checks.run(x, "fill 1 0 0 0 0;");
        due("6: from is greater than to", x.ending(), 2);
        Checks.run(x, "fill 1 2 256 0 0;");
        due("6: the index comes first", x.ending(), 3);
        Checks.run(x, "fill 0 1 0 0 256;");
        due("6: a channel", x.ending(), 2);
        Checks.run(x, "bypass 2;");
        due("6: bypass", x.ending(), 3);
        Checks.run(x, "level 256;");
        due("6: level", x.ending(), 2);
        Checks.run(x, "show;");
        due("6: its end", x.ending(), 0);
        Checks.run(x, "repeat 20(repeat 10(show;););repeat 20();");
        due("6: only a repeat is left", x.ending(), 0);
        Checks.run(x, "repeat 20(repeat 10(show;););repeat 1(repeat 1(bypass 9;););");
        due("6: one that would throw is left", x.ending(), 1);
        Checks.run(x, "repeat 20(repeat 10(show;);repeat 1(level 256;););");
        due("6: one that throws ahead of the 200", x.ending(), 2);
        Checks.run(x, "shift 9999;");
        due("6: the greatest shift", x.ending(), 0);
    }

    private static void promise7State() {
        LampStrip x = Checks.made("strip 5 60;bad 1 burnt;bad 3 stutter 2;bad 4 dead;feed 2 9999;level 200;"
                + "curve x;fill 0 4 255 0 0;");
        x.bypass(3, true);
        due("7: pixels", x.state(0), 5);
        due("7: unit", x.state(1), 60);
        due("7: level", x.state(2), 200);
        due("7: feeds", x.state(3), 2);
        due("7: bypassed", x.state(4), 1);
        due("7: shown", x.state(5), 0);
        due("7: wrong, none was shown", x.state(6), 2);
        due("7: bad and not bypassed", x.state(9), 2);
        x.show(2);
        due("7: shown twice", x.state(5), 2);
        due("7: wrong", x.state(6), 2);
        due("7: current, 0 and 2 show", x.state(7), 40);
        due("7: account", x.state(8), 80);
        x.limit(1, 10);
        // 127 of 255 is left to pixel 2, and 127 * 60 / 765 is 9.
        due("7: current is of now", x.state(7), 29);
        due("7: account is not", x.state(8), 80);
        x.show(1);
        due("7: account goes on", x.state(8), 109);
        due("7: undone", x.undo(), 4);
        due("7: shown, undone", x.state(5), 2);
        due("7: account, undone", x.state(8), 80);
        Checks.dueThrow("7: what below", x, ARGUMENT, () -> x.state(-1));
        Checks.dueThrow("7: what above", x, ARGUMENT, () -> x.state(10));
        // 254 * 1 / 765 is 0 for each pixel, also if they are many.
        LampStrip y = Checks.made("strip 40 3;fill 0 39 254 0 0;");
        y.show(1);
        due("7: each pixel is divided alone", y.state(7), 0);
        y.fill(0, 39, 254, 1, 0);
        y.show(1);
        due("7: each pixel has 1", y.state(7), 40);
    }

    private static void promise8Pixel() {
        LampStrip x = Checks.made("strip 4 30;bad 1 stutter 3;bad 2 burnt;level 51;fill 1 2 100 50 250;");
        x.bypass(0, true);
        x.show(3);
        int[][] wants = {
            {0, 1, 0, 0, 0, 0, 0, -1, 0},
            {3, 0, 3, 3, Checks.color(20, 10, 50), Checks.color(20, 10, 50), Checks.color(20, 10, 50), 1,
                Checks.color(100, 50, 250)},
            {2, 0, 0, 3, 0, Checks.color(20, 10, 50), Checks.color(20, 10, 50), 1, Checks.color(100, 50, 250)},
            {0, 0, 0, 3, Checks.color(20, 10, 50), Checks.color(20, 10, 50), 0, 2, 0},
        };
        for (int pixel = 0; pixel < 4; pixel++) {
            for (int what = 0; what <= 8; what++) {
                due("8: pixel(" + pixel + ", " + what + ")", x.pixel(pixel, what), wants[pixel][what]);
            }
        }
        x.fill(3, 3, 1, 2, 3);
        due("8: the due color is that of the last show", x.pixel(3, 6), 0);
        due("8: the frame is that of now", x.pixel(3, 8), Checks.color(1, 2, 3));
        Checks.dueThrow("8: pixel below", x, INDEX, () -> x.pixel(-1, 0));
        Checks.dueThrow("8: pixel above", x, INDEX, () -> x.pixel(4, 0));
        Checks.dueThrow("8: pixel comes first", x, INDEX, () -> x.pixel(4, 9));
        Checks.dueThrow("8: what below", x, ARGUMENT, () -> x.pixel(0, -1));
        Checks.dueThrow("8: what above", x, ARGUMENT, () -> x.pixel(0, 9));
    }

    private static void promise9Feed() {
        LampStrip x = Checks.made("strip 12 100;feed 9 4;feed 3 2;feed 11 5;feed 1 1;feed 5 3;fill 0 11 255 255 255;");
        int[] pixels = {0, 1, 3, 5, 9, 11};
        int[] limits = {9999, 1, 2, 3, 4, 5};
        int[] lasts = {0, 2, 4, 8, 10, 11};
        int[] loads = {100, 200, 200, 400, 200, 100};
        x.show(1);
        for (int feed = 0; feed < 6; feed++) {
            due("9: pixel of feed " + feed, x.feed(feed, 0), pixels[feed]);
            due("9: limit of feed " + feed, x.feed(feed, 1), limits[feed]);
            due("9: load of feed " + feed, x.feed(feed, 2), loads[feed]);
            due("9: last of feed " + feed, x.feed(feed, 3), lasts[feed]);
        }
        x.damage(5, 2, 0);
        x.damage(6, 1, 0);
        x.damage(7, 3, 2);
        x.bypass(8, true);
        due("9: burnt, dead and bypassed ones are no load", x.feed(3, 2), 100);
        Checks.dueThrow("9: feed below", x, INDEX, () -> x.feed(-1, 0));
        Checks.dueThrow("9: feed above", x, INDEX, () -> x.feed(6, 0));
        Checks.dueThrow("9: feed comes first", x, INDEX, () -> x.feed(6, 4));
        Checks.dueThrow("9: what below", x, ARGUMENT, () -> x.feed(0, -1));
        Checks.dueThrow("9: what above", x, ARGUMENT, () -> x.feed(0, 4));
    }

    private static void promise9SharedColors() {
        LampStrip x = Checks.made("strip 2 100;feed 0 100;fill 0 0 255 255 255;fill 1 1 200 100 0;");
        x.show(1);
        due("9: load", x.feed(0, 2), 139);
        due("9: white is shared", x.pixel(0, 4), Checks.color(183, 183, 183));
        due("9: each channel by itself", x.pixel(1, 4), Checks.color(143, 71, 0));
        due("9: taken stays", x.pixel(1, 5), Checks.color(200, 100, 0));
        x.limit(0, 139);
        due("9: a load of the limit is not shared", x.pixel(0, 4), Checks.color(255, 255, 255));
        x.limit(0, 0);
        due("9: no current at all", x.pixel(0, 4), 0);
        due("9: current 0", x.state(7), 0);
    }

    private static void promise10Why() {
        LampStrip x = Checks.made("strip 9 90;feed 8 1;fill 0 8 9 9 9;fill 8 8 255 255 255;");
        due("10: never took one", x.why(0), 4);
        x.show(1);
        due("10: nothing", x.why(0), 0);
        due("10: shared", x.why(8), 8);
        x.limit(1, 90);
        due("10: not shared with a load of the limit", x.why(8), 0);
        x.limit(1, 89);
        due("10: shared with one more", x.why(8), 8);
        x.damage(1, 1, 0);
        x.damage(2, 2, 0);
        x.fill(5, 5, 1, 1, 1);
        x.show(1);
        due("10: dead", x.why(1), 2);
        due("10: burnt", x.why(2), 3);
        due("10: behind a dead one", x.why(5), 5);
        due("10: behind a dead one, but right", x.why(6), 0);
        x.bypass(1, true);
        due("10: bypassed comes first", x.why(1), 1);
        due("10: the dead one is bypassed", x.why(5), 7);
        LampStrip y = Checks.made("strip 3 1;bad 0 stutter 2;fill 0 0 1 1 1;fill 1 1 2 2 2;fill 2 2 2 2 2;");
        y.show(2);
        due("10: of another pixel", y.why(1), 6);
        due("10: of another pixel with its color", y.why(2), 0);
        y.damage(0, 1, 0);
        due("10: dead ahead comes first", y.why(1), 5);
        y.bypass(1, true);
        y.damage(2, 2, 0);
        due("10: bypassed", y.why(1), 1);
        due("10: burnt comes ahead of dead ahead", y.why(2), 3);
        LampStrip z = Checks.made("strip 2 1;bad 0 dead;");
        z.show(1);
        due("10: never took one, a dead one ahead", z.why(1), 4);
        Checks.dueThrow("10: below", x, INDEX, () -> x.why(-1));
        Checks.dueThrow("10: above", x, INDEX, () -> x.why(9));
    }

    private static void promise11Origin() {
        LampStrip x = Checks.made("strip 6 1;bad 0 burnt;bad 1 stutter 2;bad 4 dead;");
        int[][] wants = {{0, 1, 2, 3, -1, -1}, {0, 1, 1, 2, -1, -1}, {0, 1, 2, 3, -1, -1}};
        for (int time = 0; time < 3; time++) {
            for (int pixel = 0; pixel < 6; pixel++) {
                due("11: pixel " + pixel + " at " + time, x.origin(pixel), wants[time][pixel]);
            }
            x.show(1);
        }
        x.bypass(2, true);
        int[] bypassed = {0, 1, -1, 1, -1, -1};
        for (int pixel = 0; pixel < 6; pixel++) {
            due("11: pixel " + pixel + ", 2 is bypassed", x.origin(pixel), bypassed[pixel]);
        }
        x.bypass(4, true);
        due("11: behind a bypassed dead one", x.origin(5), 3);
        due("11: a bypassed dead one", x.origin(4), -1);
        Checks.dueThrow("11: below", x, INDEX, () -> x.origin(-1));
        Checks.dueThrow("11: above", x, INDEX, () -> x.origin(6));
    }

    private static void promise12WrongIn() {
        LampStrip x = Checks.made("strip 3 1;bad 0 stutter 3;fill 0 0 1 0 0;fill 1 1 2 0 0;fill 2 2 3 0 0;");
        long before = x.checksum();
        for (int times = 1; times <= 20; times++) {
            due("12: in " + times, x.wrongIn(times), times % 3 == 0 ? 2 : 0);
        }
        due("12: nothing changes", x.checksum(), before);
        x.show(1);
        due("12: from the frames of now", x.wrongIn(2), 2);
        x.damage(0, 1, 0);
        due("12: dead", x.wrongIn(1), 1);
        x.fill(1, 2, 7, 7, 7);
        due("12: with the frame of now", x.wrongIn(20), 3);
        due("12: it is no change", x.undo(), 3);
        Checks.dueThrow("12: 0", x, ARGUMENT, () -> x.wrongIn(0));
        Checks.dueThrow("12: 21", x, ARGUMENT, () -> x.wrongIn(21));
    }

    private static void promise13Plan() {
        LampStrip x = Checks.made("strip 40 1;bad 2 burnt;bad 5 dead;bad 39 burnt;fill 10 10 5 5 5;");
        due("13: none", x.plan(0), 0);
        due("13: one", x.plan(1), 1L << 5);
        due("13: two, the smaller sum", x.plan(2), 1L << 2 | 1L << 5);
        due("13: three", x.plan(3), 1L << 2 | 1L << 5 | 1L << 39);
        due("13: ten", x.plan(10), 1L << 2 | 1L << 5 | 1L << 39);
        x.bypass(5, true);
        due("13: not those that are bypassed", x.plan(10), 1L << 2 | 1L << 39);
        due("13: nothing is bypassed by it", x.state(4), 1);
        due("13: nothing is shown by it", x.state(5), 0);
        LampStrip y = Checks.made("strip 4 1;bad 0 stutter 2;fill 1 1 9 9 9;fill 3 3 9 9 9;");
        due("13: a stuttering one that is right now", y.plan(10), 0);
        y.show(1);
        due("13: a stuttering one that is due", y.plan(10), 1);
        due("13: but none is allowed", y.plan(0), 0);
        LampStrip z = Checks.made("strip 4 1;bad 0 stutter 2;fill 0 0 1 1 1;fill 1 3 2 2 2;");
        z.show(1);
        due("13: the color of pixel 0 would come to another", z.plan(10), 1);
        Checks.dueThrow("13: below", x, ARGUMENT, () -> x.plan(-1));
        Checks.dueThrow("13: above", x, ARGUMENT, () -> x.plan(11));
    }

    private static void promise13PlanTies() {
        // Without a bypass of both dead ones, all behind the first one keep their black, which is due.
        LampStrip x = Checks.made("strip 6 1;bad 1 dead;bad 3 dead;");
        due("13: one of two that are as good", x.plan(1), 2);
        due("13: both", x.plan(2), 10);
        StringBuilder text = new StringBuilder("strip 40 1;");
        for (int pixel = 30; pixel < 40; pixel++) {
            text.append("bad ").append(pixel).append(" burnt;");
        }
        LampStrip y = Checks.made(text.toString());
        for (int many = 0; many <= 10; many++) {
            due("13: the first " + many, y.plan(many), ((1L << many) - 1) << 30);
        }
        // A stuttering pixel in a frame of one color does no harm: the smaller set wins.
        LampStrip z = Checks.made("strip 5 1;bad 0 stutter 2;bad 1 stutter 2;fill 0 4 3 3 3;");
        z.show(1);
        due("13: the fewest pixels", z.plan(10), 0);
        LampStrip w = Checks.made("strip 4 1;bad 0 dead;bad 2 dead;fill 3 3 1 1 1;");
        due("13: the last one is wrong unless both are bypassed", w.plan(1), 1);
        due("13: both, so that all are right", w.plan(2), 5);
    }

    private static void promise14GreatestLevel() {
        LampStrip x = Checks.made("strip 4 100;feed 2 50;fill 0 3 255 255 255;");
        // 3 * 66 * 100 / 765 is 25, of 67 it is 26.
        due("14: of two white ones with 50", x.greatestLevel(), 66);
        x.limit(1, 200);
        due("14: enough for all", x.greatestLevel(), 255);
        x.limit(1, 0);
        due("14: enough for none", x.greatestLevel(), 2);
        x.limit(1, 199);
        due("14: just not enough", x.greatestLevel(), 254);
        x.bypass(2, true);
        due("14: a bypassed one is no load", x.greatestLevel(), 255);
        x.limit(1, 50);
        x.damage(3, 2, 0);
        due("14: nor is a burnt one", x.greatestLevel(), 255);
        x.damage(3, 1, 0);
        due("14: nor is a dead one", x.greatestLevel(), 255);
        x.damage(3, 3, 9);
        due("14: a stuttering one is", x.greatestLevel(), 130);
        due("14: the level stays", x.state(2), 255);
    }

    private static void promise14OddCurves() {
        LampStrip x = Checks.made("strip 1 100;feed 0 99;curve 255;");
        due("14: there is none", x.greatestLevel(), -1);
        LampStrip y = Checks.made("strip 1 100;feed 0 0;curve level*255;");
        due("14: only 0", y.greatestLevel(), 0);
        LampStrip z = Checks.made("strip 1 100;feed 0 10;curve 255-level;");
        due("14: a curve that falls", z.greatestLevel(), 255);
        LampStrip w = Checks.made("strip 1 100;feed 0 10;curve (level-200)*(level-200);");
        due("14: a curve that falls and rises", w.greatestLevel(), 205);
    }

    private static void promise15Usage() {
        LampStrip x = Checks.made("strip 4 100;feed 2 50;feed 0 100;fill 0 3 255 255 255;");
        Checks.dueReal("15: nothing yet", x.usage(), 0.0);
        x.show(1);
        // Of 127 127 127, each pixel has 49 in feed 0 and, of 63 63 63, 24 in feed 1.
        due("15: current", x.state(7), 2 * 49 + 2 * 24);
        Checks.dueReal("15: usage", x.usage(), 146.0 / 150.0);
        x.limit(0, 0);
        x.limit(1, 0);
        Checks.dueReal("15: no limits", x.usage(), 0.0);
        x.limit(1, 7);
        Checks.dueReal("15: some", x.usage(), (double) x.state(7) / 7.0);
        LampStrip y = Checks.made("strip 6 1;feed 1 1;feed 2 2;feed 3 3;feed 4 4;feed 5 5;feed 0 6;fill 0 5 255 255 255;");
        y.show(1);
        Checks.dueReal("15: all feeds", y.usage(), 6.0 / 21.0);
        Checks.load(y, "strip 6 1;feed 1 1;feed 0 2;fill 0 5 255 255 255;");
        y.show(1);
        Checks.dueReal("15: those of now", y.usage(), (double) y.state(7) / 3.0);
    }

    private static void promise16Fill() {
        LampStrip x = Checks.made("strip 5 1;fill 1 1 1 2 3;");
        due("16: those that are other ones", x.fill(0, 2, 1, 2, 3), 2);
        due("16: again", x.fill(0, 2, 1, 2, 3), 0);
        due("16: one", x.fill(4, 4, 255, 0, 255), 1);
        due("16: color", x.pixel(4, 8), Checks.color(255, 0, 255));
        due("16: not behind it", x.pixel(3, 8), 0);
        Checks.dueThrow("16: from below", x, INDEX, () -> x.fill(-1, 0, 0, 0, 0));
        Checks.dueThrow("16: from above", x, INDEX, () -> x.fill(5, 0, 0, 0, 0));
        Checks.dueThrow("16: to below", x, INDEX, () -> x.fill(0, -1, 0, 0, 0));
        Checks.dueThrow("16: to above", x, INDEX, () -> x.fill(0, 5, 256, 0, 0));
        Checks.dueThrow("16: from greater than to", x, ARGUMENT, () -> x.fill(2, 1, 0, 0, 0));
        Checks.dueThrow("16: red below", x, ARGUMENT, () -> x.fill(0, 1, -1, 0, 0));
        Checks.dueThrow("16: red above", x, ARGUMENT, () -> x.fill(0, 1, 256, 0, 0));
        Checks.dueThrow("16: green below", x, ARGUMENT, () -> x.fill(0, 1, 0, -1, 0));
        Checks.dueThrow("16: green above", x, ARGUMENT, () -> x.fill(0, 1, 0, 256, 0));
        Checks.dueThrow("16: blue below", x, ARGUMENT, () -> x.fill(0, 1, 0, 0, -1));
        Checks.dueThrow("16: blue above", x, ARGUMENT, () -> x.fill(0, 1, 0, 0, 256));
    }

    private static void promise17Shift() {
        LampStrip x = Checks.made("strip 4 1;fill 0 0 0 0 1;fill 1 1 0 0 2;fill 2 2 0 0 3;fill 3 3 0 0 4;");
        due("17: by 1", x.shift(1), 4);
        due("17: to higher indexes", x.pixel(1, 8), 1);
        due("17: by 0", x.shift(0), 4);
        due("17: by a whole round", x.shift(4), 4);
        due("17: by 9999", x.shift(9999), 1);
        due("17: the last one", x.pixel(3, 8), 4);
        Checks.dueThrow("17: below", x, ARGUMENT, () -> x.shift(-1));
        Checks.dueThrow("17: above", x, ARGUMENT, () -> x.shift(10000));
    }

    private static void promise18Level() {
        LampStrip x = Checks.made("strip 1 1;fill 0 0 255 100 1;level 9;");
        due("18: previous", x.level(255), 9);
        due("18: previous again", x.level(0), 255);
        due("18: it is told", x.state(2), 0);
        x.show(1);
        due("18: black", x.pixel(0, 5), 0);
        x.level(254);
        x.show(1);
        due("18: rounded toward zero", x.pixel(0, 5), Checks.color(254, 99, 0));
        Checks.dueThrow("18: below", x, ARGUMENT, () -> x.level(-1));
        Checks.dueThrow("18: above", x, ARGUMENT, () -> x.level(256));
    }

    private static void promise19Show() {
        LampStrip x = Checks.made("strip 5 1;bad 1 stutter 2;bad 3 dead;fill 0 0 1 0 0;fill 1 1 2 0 0;"
                + "fill 2 2 3 0 0;fill 3 3 4 0 0;fill 4 4 5 0 0;");
        due("19: wrong ones", x.show(1), 2);
        due("19: frames of a dead one", x.pixel(3, 3), 1);
        due("19: frames behind a dead one", x.pixel(4, 3), 0);
        due("19: a dead one takes nothing", x.pixel(3, 7), -1);
        due("19: it stutters", x.show(1), 3);
        due("19: the whole row is passed on", x.pixel(2, 7), 1);
        due("19: 50 times", x.show(50), 3);
        due("19: frames", x.pixel(2, 3), 52);
        due("19: shown", x.state(5), 52);
        x.bypass(3, true);
        due("19: a bypassed one's color is not sent", x.show(1), 0);
        due("19: behind it", x.pixel(4, 7), 4);
        due("19: frames of a bypassed one", x.pixel(3, 3), 52);
        due("19: a lost color", x.show(1), 2);
        due("19: one back", x.pixel(4, 7), 2);
        due("19: a bypassed one's due color", x.pixel(3, 6), Checks.color(4, 0, 0));
        Checks.dueThrow("19: below", x, ARGUMENT, () -> x.show(0));
        Checks.dueThrow("19: above", x, ARGUMENT, () -> x.show(51));
    }

    /** What is sent for the channel 7 at level 100 with the curve. */
    private static int sent(String curve) {
        LampStrip x = Checks.made("strip 1 1;level 100;fill 0 0 0 0 7;curve " + curve + ";");
        x.show(1);
        return x.pixel(0, 6) & 255;
    }

    private static void promise19Curves() {
        due("19: x", sent("x"), 7);
        due("19: level", sent("level"), 100);
        due("19: a number", sent("0009"), 9);
        due("19: limited above", sent("9999"), 255);
        due("19: limited below", sent("1-2"), 0);
        due("19: from the left", sent("100-x-3"), 90);
        due("19: from the left, term", sent("100/x*x"), 98);
        due("19: terms first", sent("1+x*2"), 15);
        due("19: terms first, behind", sent("x*2+1"), 15);
        due("19: mixed", sent("x*2-x/2+3*4-1"), 22);
        due("19: parentheses", sent("(1+x)*2"), 16);
        due("19: four deep", sent("1+(2*(3+(4*(5-x))))"), 0);
        due("19: four deep, again", sent("200-(2*(3-(4*(5-x*1))))"), 178);
        due("19: toward zero", sent("100+(0-x)/2"), 97);
        due("19: by zero", sent("50+x/(x-7)"), 50);
        due("19: by zero, then times", sent("50+x/0*9+1"), 51);
        due("19: a product is limited", sent("9999*9999/9999"), 100);
        due("19: a product is limited below", sent("200+(0-9999)*9999/9999"), 100);
        due("19: a sum is limited", sent("9999*9999+9999-9999*100"), 100);
        due("19: beyond an int", sent("9999*9999*9999/9999"), 100);
        due("19: a difference is limited", sent("(0-9999*9999-9999+9999*100)/(0-1)"), 100);
        due("19: spaces", sent(" ( x + 1 ) * level / 8 "), 100);
        due("19: side by side", sent("x+level-x"), 100);
        due("19: deepest stack", sent("1+1*(1+1*(1+1*(1+1*(1+1*x))))"), 12);
    }

    private static void promise20Bypass() {
        LampStrip x = Checks.made("strip 40 1;");
        due("20: it was not", x.bypass(39, true) ? 1 : 0, 0);
        due("20: it was", x.bypass(39, true) ? 1 : 0, 1);
        due("20: is it", x.pixel(39, 1), 1);
        due("20: the others", x.state(4), 1);
        due("20: it was still", x.bypass(39, false) ? 1 : 0, 1);
        due("20: it was not any more", x.bypass(39, false) ? 1 : 0, 0);
        due("20: none", x.state(4), 0);
        for (int pixel = 0; pixel < 40; pixel++) {
            x.bypass(pixel, true);
        }
        due("20: all", x.state(4), 40);
        due("20: nothing is wrong", x.show(1), 0);
        due("20: nothing is taken", x.pixel(0, 3), 0);
        Checks.dueThrow("20: below", x, INDEX, () -> x.bypass(-1, true));
        Checks.dueThrow("20: above", x, INDEX, () -> x.bypass(40, false));
        LampStrip y = Checks.made("strip 2 1;fill 0 1 5 5 5;bad 0 dead;");
        due("20: both are wrong", y.show(1), 2);
        y.bypass(1, true);
        due("20: a bypassed one with another color is not wrong", y.state(6), 1);
        y.bypass(0, true);
        due("20: a bypassed dead one is not wrong", y.state(6), 0);
    }

    private static void promise21Damage() {
        LampStrip x = Checks.made("strip 12 1;fill 0 11 9 9 9;");
        x.show(2);
        x.bypass(0, true);
        due("21: previous", x.damage(0, 3, 9), 0);
        due("21: previous again", x.damage(0, 2, 0), 3);
        due("21: the period is gone", x.pixel(0, 2), 0);
        due("21: frames stay", x.pixel(0, 3), 2);
        due("21: color stays", x.pixel(0, 5), Checks.color(9, 9, 9));
        due("21: origin stays", x.pixel(0, 7), 0);
        due("21: bypass stays", x.pixel(0, 1), 1);
        for (int pixel = 1; pixel < 10; pixel++) {
            due("21: good before", x.damage(pixel, 1 + pixel % 3, pixel % 3 == 2 ? 2 : 0), 0);
        }
        due("21: nine are not bypassed", x.state(9), 9);
        Checks.dueThrow("21: an 11th", x, IllegalStateException.class, () -> x.damage(10, 1, 0));
        Checks.dueThrow("21: kind comes first", x, ARGUMENT, () -> x.damage(10, 4, 0));
        due("21: good stays good", x.damage(10, 0, 0), 0);
        due("21: another kind of a bad one", x.damage(9, 3, 2), 1);
        due("21: mended", x.damage(9, 0, 0), 3);
        due("21: the 10th", x.damage(11, 1, 0), 0);
        Checks.dueThrow("21: below", x, INDEX, () -> x.damage(-1, 0, 0));
        Checks.dueThrow("21: above", x, INDEX, () -> x.damage(12, 4, 0));
        Checks.dueThrow("21: kind below", x, ARGUMENT, () -> x.damage(0, -1, 0));
        Checks.dueThrow("21: kind above", x, ARGUMENT, () -> x.damage(0, 4, 0));
        Checks.dueThrow("21: period below", x, ARGUMENT, () -> x.damage(0, 3, 1));
        Checks.dueThrow("21: period above", x, ARGUMENT, () -> x.damage(0, 3, 10));
        Checks.dueThrow("21: no period", x, ARGUMENT, () -> x.damage(0, 3, 0));
        Checks.dueThrow("21: a period of a good one", x, ARGUMENT, () -> x.damage(0, 0, 2));
        Checks.dueThrow("21: a period of a dead one", x, ARGUMENT, () -> x.damage(0, 1, 2));
        Checks.dueThrow("21: a period of a burnt one", x, ARGUMENT, () -> x.damage(0, 2, -1));
    }

    private static void promise22Limit() {
        LampStrip x = Checks.made("strip 3 1;feed 1 5;");
        due("22: previous", x.limit(1, 9999), 5);
        due("22: previous again", x.limit(1, 0), 9999);
        due("22: it is told", x.feed(1, 1), 0);
        due("22: the other stays", x.limit(0, 3), 9999);
        Checks.dueThrow("22: below", x, INDEX, () -> x.limit(-1, 0));
        Checks.dueThrow("22: above", x, INDEX, () -> x.limit(2, -1));
        Checks.dueThrow("22: limit below", x, ARGUMENT, () -> x.limit(0, -1));
        Checks.dueThrow("22: limit above", x, ARGUMENT, () -> x.limit(0, 10000));
    }

    private static void promise23And24KeepAndRestore() {
        LampStrip x = Checks.made("strip 6 9;bad 1 dead;bad 3 stutter 2;feed 2 1;level 90;curve x+level;fill 2 5 8 7 6;");
        x.bypass(4, true);
        x.show(3);
        long kept = x.checksum();
        due("23: wrong ones", x.keep(1), x.state(6));
        due("23: it is no change", x.checksum(), kept);
        Checks.dueThrow("24: the other one is empty", x, NoSuchElementException.class, () -> x.restore(0));
        Checks.load(x, "strip 2 2;fill 0 1 1 1 1;bad 0 dead;");
        x.show(1);
        due("23: two wrong ones", x.keep(0), 2);
        long other = x.checksum();
        due("24: wrong ones", x.restore(1), 4);
        due("24: all data", x.checksum(), kept);
        x.fill(0, 0, 7, 7, 7);
        x.show(1);
        due("24: the curve, too", x.pixel(0, 6), Checks.color(97, 97, 97));
        x.restore(1);
        due("24: they stay there", x.checksum(), kept);
        x.restore(0);
        due("24: the other one", x.checksum(), other);
        due("24: it is a change", x.undo(), 7);
        due("24: undone", x.checksum(), kept);
        x.keep(0);
        x.undo();
        x.undo();
        x.undo();
        due("23: keep is not undone", x.restore(0), 4);
        due("23: replaced", x.checksum(), kept);
        Checks.dueThrow("23: below", x, INDEX, () -> x.keep(-1));
        Checks.dueThrow("23: above", x, INDEX, () -> x.keep(2));
        Checks.dueThrow("24: below", x, INDEX, () -> x.restore(-1));
        Checks.dueThrow("24: above", x, INDEX, () -> x.restore(2));
    }

    private static void promise25Undo() {
        LampStrip x = new LampStrip();
        due("25: none", x.undo(), -1);
        long[] sums = new long[12];
        for (int n = 0; n < 12; n++) {
            sums[n] = x.checksum();
            x.level(n);
        }
        for (int n = 11; n >= 4; n--) {
            due("25: left", x.undo(), n - 4);
            due("25: as it was", x.checksum(), sums[n]);
        }
        due("25: the others are final", x.undo(), -1);
        due("25: nothing changes then", x.checksum(), sums[4]);
        for (int n = 0; n < 8; n++) {
            x.level(n);
        }
        x.undo();
        x.undo();
        x.level(200);
        due("25: those undone do not count", x.undo(), 6);
        for (int n = 0; n < 6; n++) {
            x.undo();
        }
        due("25: the first one was not final", x.state(2), 3);
    }

    private static void promise25WhatIsAChange() {
        LampStrip x = Checks.made("strip 3 1;feed 1 7;");
        x.fill(0, 0, 0, 0, 0);
        x.shift(0);
        x.level(255);
        x.show(1);
        x.bypass(0, false);
        x.damage(0, 0, 0);
        x.limit(0, 9999);
        due("25: each is one, also without an effect", x.undo(), 7);
        x.limit(0, 9999);
        Checks.run(x, "");
        due("25: an empty script is one", x.undo(), 7);
        Checks.run(x, "what");
        Checks.load(x, "what");
        x.keep(0);
        x.plan(1);
        x.wrongIn(1);
        x.greatestLevel();
        due("25: none of these is one", x.undo(), 6);
        for (int n = 0; n < 6; n++) {
            x.undo();
        }
        due("25: back at the setup, whose load is final", x.undo(), -1);
        due("25: its feed", x.feed(1, 1), 7);
        LampStrip y = Checks.made("strip 3 1;");
        y.append(0x73686f77, 0x3b202020, 0x20202020, 0x20202020, 0x20202020);
        due("25: load is one", y.undo(), 0);
        due("25: the object as it was made", y.state(0), 1);
        due("25: the buffer stays", y.run(20), 1);
    }

    private static void promise26Checksum() {
        LampStrip x = Checks.made("strip 7 60;bad 1 stutter 2;bad 4 dead;feed 2 30;fill 0 6 250 251 252;");
        x.bypass(6, true);
        x.show(2);
        long sum = 0;
        for (int what = 0; what <= 9; what++) {
            sum = 31 * sum + x.state(what);
        }
        for (int pixel = 0; pixel < 7; pixel++) {
            for (int what = 0; what <= 8; what++) {
                sum = 31 * sum + x.pixel(pixel, what);
            }
        }
        for (int feed = 0; feed < 2; feed++) {
            for (int what = 0; what <= 3; what++) {
                sum = 31 * sum + x.feed(feed, what);
            }
        }
        due("26: in this order", x.checksum(), sum);
        int[] fresh = {1, 1, 255, 1, 0, 0, 0, 0, 0, 0, 0, 0, 0, 0, 0, 0, 0, -1, 0, 0, 9999, 0, 0};
        long freshSum = 0;
        for (int number : fresh) {
            freshSum = 31 * freshSum + number;
        }
        due("26: of a new object", new LampStrip().checksum(), freshSum);
    }
}
