/** The edges that the terms of the document name: the strip, its curve, and how the frame is shown. */
public final class EdgeTermsTest {
    private EdgeTermsTest() {
    }

    public static void main(String[] args) {
        Edges.runAll(EdgeTermsTest.class);
    }

    private static void due(String what, long got, long want) {
        Checks.due(what, got, want);
    }

    /** The channel that is sent for a channel of the frame, at this level and with this curve. */
    private static int sent(String curve, int x, int level) {
        LampStrip strip = Checks.made("strip 1 1;level " + level + ";fill 0 0 0 0 " + x + ";curve " + curve + ";");
        strip.show(1);
        return strip.pixel(0, 6) & 255;
    }

    private static int sentWithoutCurve(int x, int level) {
        LampStrip strip = Checks.made("strip 1 1;level " + level + ";fill 0 0 0 0 " + x + ";");
        strip.show(1);
        return strip.pixel(0, 6);
    }

    @Sentence(promise = 16, value = "A color has three channels, red, green and blue, each 0 to 255; it is told as "
            + "one number: 65536 * red + 256 * green + blue. Black is 0.")
    private static void colorIsOneNumber() {
        LampStrip x = new LampStrip();
        int[][] colors = {{255, 255, 255, 16777215}, {255, 0, 0, 16711680}, {0, 255, 0, 65280}, {0, 0, 255, 255},
            {1, 2, 3, 66051}, {128, 127, 129, 8421249}, {0, 0, 0, 0}};
        for (int[] color : colors) {
            x.fill(0, 0, color[0], color[1], color[2]);
            x.show(1);
            due("in the frame", x.pixel(0, 8), color[3]);
            due("it is due", x.pixel(0, 6), color[3]);
            due("it was taken", x.pixel(0, 5), color[3]);
            due("it is shown", x.pixel(0, 4), color[3]);
            due("of shift", x.shift(0), color[3]);
        }
    }

    @Sentence(promise = 19, value = "Division rounds toward zero.")
    private static void divisionRoundsTowardZero() {
        due("-1 / 2", sent("(0-1)/2+10", 0, 0), 10);
        due("-7 / 2", sent("(0-7)/2+10", 0, 0), 7);
        due("-8 / 2", sent("(0-8)/2+10", 0, 0), 6);
        due("7 / -2", sent("7/(0-2)+10", 0, 0), 7);
        due("-7 / -2", sent("(0-7)/(0-2)+10", 0, 0), 13);
        due("7 / 2", sent("7/2", 0, 0), 3);
    }

    @Sentence(promise = 3, value = "There are 1 to 40 pixels, with indexes from 0.")
    private static void pixels1To40() {
        due("none", Checks.load(new LampStrip(), "strip 0 1;"), Edges.RANGE);
        due("41", Checks.load(new LampStrip(), "strip 41 1;"), Edges.RANGE);
        for (int many : new int[] {1, 2, 39, 40}) {
            Edges.Maker maker = () -> Checks.made("strip " + many + " 1;");
            LampStrip x = maker.make();
            due("pixels", x.state(0), many);
            due("the first one", x.pixel(0, 7), -1);
            due("the last one", x.pixel(many - 1, 7), -1);
            Edges.refused("ahead of the first one", Edges.INDEX, maker, y -> y.pixel(-1, 0));
            Edges.refused("behind the last one", Edges.INDEX, maker, y -> y.pixel(many, 0));
        }
    }

    @Sentence(promise = 3, value = "A pixel is good (kind 0), dead (1), burnt (2) or stuttering (3); a stuttering "
            + "one has a period (2 to 9).")
    private static void kindsAndPeriods() {
        LampStrip x = Checks.made("strip 6 1;bad 1 dead;bad 2 burnt;bad 3 stutter 2;bad 4 stutter 9;");
        int[] kinds = {0, 1, 2, 3, 3, 0};
        int[] periods = {0, 0, 0, 2, 9, 0};
        for (int pixel = 0; pixel < 6; pixel++) {
            due("kind of " + pixel, x.pixel(pixel, 0), kinds[pixel]);
            due("period of " + pixel, x.pixel(pixel, 2), periods[pixel]);
        }
        due("a period of 1", Checks.load(x, "strip 6 1;bad 3 stutter 1;"), Edges.RANGE);
        due("a period of 10", Checks.load(x, "strip 6 1;bad 3 stutter 10;"), Edges.RANGE);
    }

    @Sentence(promise = 7, value = "The unit (1 to 100) is the current of a white pixel.")
    private static void unit1To100() {
        due("0", Checks.load(new LampStrip(), "strip 1 0;"), Edges.RANGE);
        due("101", Checks.load(new LampStrip(), "strip 1 101;"), Edges.RANGE);
        for (int unit : new int[] {1, 2, 99, 100}) {
            LampStrip x = Checks.made("strip 1 " + unit + ";fill 0 0 255 255 255;");
            x.show(1);
            due("unit", x.state(1), unit);
            due("load of a white one", x.feed(0, 2), unit);
            due("current of a white one", x.state(7), unit);
            x.fill(0, 0, 255, 254, 255);
            x.show(1);
            due("less, a little from white", x.state(7), unit - 1);
        }
    }

    @Sentence(promise = 9, value = "A feed is at a pixel and has a limit (0 to 9999).")
    private static void limits0To9999() {
        LampStrip x = Checks.made("strip 5 1;feed 0 0;feed 4 9999;");
        due("pixel of the first one", x.feed(0, 0), 0);
        due("the least limit", x.feed(0, 1), 0);
        due("pixel of the last one", x.feed(1, 0), 4);
        due("the greatest limit", x.feed(1, 1), 9999);
        due("10000", Checks.load(x, "strip 5 1;feed 4 10000;"), Edges.RANGE);
        due("a pixel that there is not", Checks.load(x, "strip 5 1;feed 5 1;"), Edges.RANGE);
    }

    @Sentence(promise = 9, value = "There is always one at pixel 0, and there are at most 5 others; they are told "
            + "by indexes from 0, in the order of their pixels.")
    private static void feedsOneToSix() {
        LampStrip none = Checks.made("strip 40 1;");
        due("one without a statement", none.state(3), 1);
        due("it is at pixel 0", none.feed(0, 0), 0);
        LampStrip other = Checks.made("strip 40 1;feed 39 7;");
        due("two", other.state(3), 2);
        due("the one at pixel 0 comes first", other.feed(0, 0), 0);
        due("the other one behind it", other.feed(1, 0), 39);
        String[] orders = {"39 20 3 2 1", "1 2 3 20 39", "3 39 1 20 2", "20 1 39 2 3"};
        int[] pixels = {0, 1, 2, 3, 20, 39};
        for (String order : orders) {
            StringBuilder text = new StringBuilder("strip 40 1;");
            for (String pixel : order.split(" ")) {
                text.append("feed ").append(pixel).append(" 7").append(pixel).append(';');
            }
            due("a 6th one", Checks.load(new LampStrip(), text + "feed 30 1;"), Edges.MANY);
            for (String zero : new String[] {"", "feed 0 70;"}) {
                LampStrip x = Checks.made(text + zero);
                due("six with that at pixel 0", x.state(3), 6);
                for (int feed = 0; feed < 6; feed++) {
                    due("pixel of feed " + feed, x.feed(feed, 0), pixels[feed]);
                    int limit = Integer.parseInt("7" + pixels[feed]);
                    due("limit of feed " + feed, x.feed(feed, 1), feed == 0 && zero.isEmpty() ? 9999 : limit);
                }
            }
        }
    }

    @Sentence(promise = 9, value = "A feed feeds its pixel and those behind it, up to the one ahead of the next "
            + "feed.")
    private static void feedsUpToTheNext() {
        LampStrip x = Checks.made("strip 40 1;feed 1 1;feed 2 1;feed 4 1;feed 39 1;fill 0 39 255 255 255;");
        x.show(1);
        int[] lasts = {0, 1, 3, 38, 39};
        int[] loads = {1, 1, 2, 35, 1};
        for (int feed = 0; feed < 5; feed++) {
            due("the last one of feed " + feed, x.feed(feed, 3), lasts[feed]);
            due("the load of feed " + feed, x.feed(feed, 2), loads[feed]);
        }
        int[] reasons = {0, 0, 8, 8, 8, 8, 0};
        int[] asked = {0, 1, 2, 3, 4, 38, 39};
        for (int i = 0; i < asked.length; i++) {
            due("why of pixel " + asked[i], x.why(asked[i]), reasons[i]);
        }
        LampStrip one = Checks.made("strip 1 1;");
        due("the only pixel", one.feed(0, 3), 0);
        LampStrip all = Checks.made("strip 40 1;");
        due("all pixels", all.feed(0, 3), 39);
    }

    @Sentence(promise = 18, value = "The level is 0 to 255.")
    private static void level0To255() {
        due("0", Checks.made("strip 1 1;level 0;").state(2), 0);
        due("255", Checks.made("strip 1 1;level 255;").state(2), 255);
        due("256", Checks.load(new LampStrip(), "strip 1 1;level 256;"), Edges.RANGE);
    }

    @Sentence(promise = 19, value = "The curve is an expression that gives the channel that is sent for a channel x "
            + "of the frame; the result is limited to 0 to 255.")
    private static void resultIsLimitedToChannels() {
        due("far below", sent("0-9999*9999", 0, 0), 0);
        due("-1", sent("0-1", 0, 0), 0);
        due("0", sent("0", 0, 0), 0);
        due("1", sent("1", 0, 0), 1);
        due("254", sent("254", 0, 0), 254);
        due("255", sent("255", 0, 0), 255);
        due("256", sent("256", 0, 0), 255);
        due("far above", sent("9999*9999", 0, 0), 255);
        due("x of 0", sent("x", 0, 9), 0);
        due("x of 255", sent("x", 255, 9), 255);
        due("x of 255 and 1", sent("x+1", 255, 9), 255);
        due("level of 0", sent("level", 9, 0), 0);
        due("level of 255", sent("level", 9, 255), 255);
        LampStrip x = Checks.made("strip 1 1;fill 0 0 9 10 11;curve x*100-900;");
        x.show(1);
        due("each channel", x.pixel(0, 6), Checks.color(0, 100, 200));
    }

    @Sentence(promise = 19, value = "division by 0 gives 0")
    private static void divisionByZero() {
        due("5 / 0", sent("5/0+7", 0, 0), 7);
        due("0 / 0", sent("0/0+7", 0, 0), 7);
        due("-5 / 0", sent("(0-5)/0+7", 0, 0), 7);
        due("5 / x", sent("5/x+7", 0, 0), 7);
        due("5 / level", sent("5/level+7", 0, 0), 7);
        due("5 / (x - 9)", sent("5/(x-9)+7", 9, 0), 7);
        due("it goes on", sent("5/0*3+5/0/0+7", 0, 0), 7);
        due("5 / 1", sent("5/1+7", 0, 0), 12);
        due("5 / -1", sent("5/(0-1)+7", 0, 0), 2);
    }

    @Sentence(promise = 19, value = "the operations of one sum or term are made from the left to the right")
    private static void fromTheLeftToTheRight() {
        due("- -", sent("10-3-2", 0, 0), 5);
        due("- +", sent("10-3+2", 0, 0), 9);
        due("+ -", sent("10+3-2", 0, 0), 11);
        due("/ /", sent("100/7/2", 0, 0), 7);
        due("/ *", sent("100/7*5", 0, 0), 70);
        due("* /", sent("5*7/2", 0, 0), 17);
        due("- * -", sent("50-3*4-5", 0, 0), 33);
        due("- / * -", sent("50-20/3*2-5", 0, 0), 33);
        due("a limit on the way", sent("1000*1000+5-1000*1000", 0, 0), 0);
        due("no limit on the way", sent("1000*1000-1000*1000+5", 0, 0), 5);
    }

    @Sentence(promise = 19, value = "the result of each one is limited to the range -1000000 to 1000000")
    private static void eachResultIsLimited() {
        // 9999 * 100 + 99 is 999999, so that 1 is left of 1000000.
        String least = "+9999*100+101";
        String most = "-9999*100-99";
        due("a product of 999999", sent("999*1001" + most, 0, 0), 0);
        due("a product of 1000000", sent("1000*1000" + most, 0, 0), 1);
        due("a product of 1000500", sent("2001*500" + most, 0, 0), 1);
        due("the greatest product", sent("9999*9999" + most, 0, 0), 1);
        due("a sum of 1000000", sent("9999*100+100" + most, 0, 0), 1);
        due("a sum of 1000001", sent("9999*100+101" + most, 0, 0), 1);
        due("a sum of 999999", sent("9999*100+99+1" + most, 0, 0), 1);
        due("a difference of 1000000", sent("9999*100-(0-100)" + most, 0, 0), 1);
        due("a difference of 1000001", sent("9999*100-(0-101)" + most, 0, 0), 1);
        due("a quotient of 1000000", sent("1000*1000/1" + most, 0, 0), 1);
        due("a product of -999999", sent("(0-999)*1001" + least, 0, 0), 2);
        due("a product of -1000000", sent("(0-1000)*1000" + least, 0, 0), 1);
        due("a product of -1000500", sent("2001*(0-500)" + least, 0, 0), 1);
        due("a difference of -1000000", sent("0-9999*100-100" + least, 0, 0), 1);
        due("a difference of -1000001", sent("0-9999*100-101" + least, 0, 0), 1);
        due("a sum of -1000000", sent("(0-9999*100)+(0-100)" + least, 0, 0), 1);
        due("a sum of -1000001", sent("(0-9999*100)+(0-101)" + least, 0, 0), 1);
        due("products of the greatest ones", sent("9999*9999*9999*9999/9999", 0, 0), 100);
        due("two limited ones", sent("9999*9999*(9999*9999)-(1000*1000-1)", 0, 0), 1);
        due("of both signs", sent("(0-9999*9999)*(9999*9999)+(1000*1000+0)+3", 0, 0), 3);
    }

    @Sentence(promise = 19, value = "Without a curve it is x * level / 255.")
    private static void withoutCurve() {
        int[][] rows = {{255, 255, 255}, {255, 0, 0}, {0, 255, 0}, {255, 1, 1}, {254, 1, 0}, {1, 254, 0}, {1, 255, 1},
            {128, 128, 64}, {254, 254, 253}, {255, 254, 254}};
        for (int[] row : rows) {
            due(row[0] + " at " + row[1], sentWithoutCurve(row[0], row[1]), row[2]);
        }
    }

    @Sentence(promise = 8, value = "The due color of a pixel is that of the frame with the curve for each channel, "
            + "as it was when it was shown last (black if it never was).")
    private static void dueColorIsOfTheLastShow() {
        LampStrip x = Checks.made("strip 2 1;level 255;fill 0 1 9 8 7;curve x+level-255;");
        due("it never was shown", x.pixel(0, 6), 0);
        due("so it is not wrong", x.state(6), 0);
        x.show(1);
        due("it was", x.pixel(0, 6), Checks.color(9, 8, 7));
        x.fill(0, 0, 1, 1, 1);
        x.level(250);
        x.shift(1);
        due("the frame and the level of then", x.pixel(0, 6), Checks.color(9, 8, 7));
        due("wrongIn does not show it", x.wrongIn(1), 0);
        due("the due color behind that", x.pixel(0, 6), Checks.color(9, 8, 7));
        x.bypass(0, true);
        x.show(1);
        due("that of a bypassed one, too", x.pixel(0, 6), Checks.color(4, 3, 2));
        due("the other one", x.pixel(1, 6), 0);
        Checks.load(x, "strip 2 1;fill 0 1 9 8 7;");
        due("it never was shown since the load", x.pixel(0, 6), 0);
    }

    @Sentence(promise = 19, value = "those of the pixels that are not bypassed are sent as a row, in the order of "
            + "the pixels.")
    private static void rowOfThoseNotBypassed() {
        LampStrip x = Checks.made("strip 5 1;" + Edges.ownColors(5));
        x.bypass(0, true);
        x.bypass(4, true);
        x.show(1);
        int[] origins = {-1, 1, 2, 3, -1};
        for (int pixel = 0; pixel < 5; pixel++) {
            due("origin of " + pixel, x.pixel(pixel, 7), origins[pixel]);
            due("color of " + pixel, x.pixel(pixel, 5), origins[pixel] + 1);
        }
        for (int pixel = 0; pixel < 5; pixel++) {
            x.bypass(pixel, true);
        }
        due("nothing is wrong in an empty row", x.show(1), 0);
        due("an empty row counts for none", x.pixel(2, 3), 1);
        due("but the frame was shown", x.state(5), 2);
        x.bypass(4, false);
        x.show(1);
        due("a row of one color", x.pixel(4, 7), 4);
    }

    @Sentence(promise = 19, value = "The row goes along the pixels that are not bypassed, from pixel 0 on.")
    private static void rowGoesAlongThoseNotBypassed() {
        LampStrip x = Checks.made("strip 4 1;bad 0 stutter 2;bad 2 dead;" + Edges.ownColors(4));
        x.bypass(0, true);
        x.bypass(2, true);
        x.show(2);
        due("a bypassed one does not stutter", x.pixel(1, 7), 1);
        due("a bypassed dead one lets it pass", x.pixel(3, 7), 3);
        due("nothing comes to a bypassed one", x.pixel(0, 3) + x.pixel(2, 3), 0);
        x.bypass(0, false);
        x.show(2);
        due("it stutters in the second frame that comes to it", x.pixel(1, 7), 0);
        due("the others are behind by one", x.pixel(3, 7), 1);
    }

    @Sentence(promise = 8, value = "When a row with at least one color comes to a pixel, this is counted for the "
            + "pixel (its frames), and")
    private static void framesAreCounted() {
        LampStrip x = Checks.made("strip 40 1;bad 38 dead;bad 0 burnt;bad 1 stutter 2;");
        x.bypass(5, true);
        x.show(3);
        int[] pixels = {0, 1, 2, 5, 37, 38, 39};
        int[] frames = {3, 3, 3, 0, 3, 3, 0};
        for (int i = 0; i < pixels.length; i++) {
            due("frames of " + pixels[i], x.pixel(pixels[i], 3), frames[i]);
        }
        LampStrip whole = Checks.made("strip 40 1;");
        whole.show(1);
        due("a row of one color comes to the last one", whole.pixel(39, 3), 1);
        LampStrip first = Checks.made("strip 2 1;bad 0 dead;");
        first.show(50);
        due("a dead first one", first.pixel(0, 3), 50);
        due("behind it", first.pixel(1, 3), 0);
    }

    @Sentence(promise = 19, value = "a good or burnt pixel takes the first color, and passes on the rest;")
    private static void goodAndBurntOnesTakeOne() {
        LampStrip x = Checks.made("strip 4 1;bad 0 burnt;bad 2 burnt;" + Edges.ownColors(4));
        x.show(2);
        for (int pixel = 0; pixel < 4; pixel++) {
            due("color that was taken by " + pixel, x.pixel(pixel, 5), pixel + 1);
            due("origin of " + pixel, x.pixel(pixel, 7), pixel);
        }
    }

    @Sentence(promise = 19, value = "a stuttering pixel takes the first color; if its frames, with this one, are a "
            + "multiple of its period, it passes on the whole row, otherwise the rest;")
    private static void stutterAtEachMultiple() {
        for (int period = 2; period <= 9; period++) {
            LampStrip x = Checks.made("strip 3 1;bad 1 stutter " + period + ";" + Edges.ownColors(3));
            for (int time = 1; time <= 3 * period; time++) {
                x.show(1);
                due("it takes the first one", x.pixel(1, 7), 1);
                due("period " + period + ", time " + time, x.pixel(2, 7), time % period == 0 ? 1 : 2);
            }
        }
        LampStrip late = Checks.made("strip 2 1;" + Edges.ownColors(2));
        late.show(1);
        late.damage(0, 3, 2);
        late.show(1);
        due("its frames when it was good count", late.pixel(1, 7), 0);
    }

    @Sentence(promise = 19, value = "a dead pixel takes nothing, and passes on nothing.")
    private static void deadOnesTakeNothing() {
        LampStrip x = Checks.made("strip 3 1;bad 1 dead;" + Edges.ownColors(3));
        x.show(2);
        due("ahead of it", x.pixel(0, 7), 0);
        due("its origin", x.pixel(1, 7), -1);
        due("its color", x.pixel(1, 5), 0);
        due("the origin behind it", x.pixel(2, 7), -1);
        due("the frames behind it", x.pixel(2, 3), 0);
    }

    @Sentence(promise = 8, value = "A pixel to which no color comes keeps what it took last.")
    private static void keepsWhatItTook() {
        LampStrip x = Checks.made("strip 3 1;" + Edges.ownColors(3));
        x.show(1);
        x.damage(1, 1, 0);
        x.fill(0, 2, 50, 50, 50);
        x.show(1);
        due("the dead one's color", x.pixel(1, 5), 2);
        due("the dead one's origin", x.pixel(1, 7), 1);
        due("the color behind it", x.pixel(2, 5), 3);
        due("what is shown behind it", x.pixel(2, 4), 3);
        due("the origin behind it", x.pixel(2, 7), 2);
        x.bypass(0, true);
        x.show(1);
        due("a bypassed one's color", x.pixel(0, 5), Checks.color(50, 50, 50));
    }

    @Sentence(promise = 8, value = "Whoever takes a color remembers of which pixel it is the due color (its origin).")
    private static void originIsRemembered() {
        LampStrip x = Checks.made("strip 4 1;bad 0 stutter 2;bad 3 burnt;fill 0 3 1 1 1;");
        due("none yet", x.pixel(0, 7), -1);
        x.show(2);
        int[] origins = {0, 0, 1, 2};
        for (int pixel = 0; pixel < 4; pixel++) {
            due("origin of " + pixel, x.pixel(pixel, 7), origins[pixel]);
        }
        x.bypass(1, true);
        x.show(2);
        due("behind a bypassed one", x.pixel(2, 7), 0);
        due("the last one", x.pixel(3, 7), 2);
    }

    @Sentence(promise = 19, value = "(A color that is left behind the last pixel is lost.)")
    private static void colorBehindTheLastIsLost() {
        LampStrip x = Checks.made("strip 2 1;bad 0 stutter 2;bad 1 stutter 2;" + Edges.ownColors(2));
        x.show(2);
        due("one is left", x.pixel(1, 7), 0);
        x.show(1);
        due("the next row begins anew", x.pixel(0, 7), 0);
        due("and is whole", x.pixel(1, 7), 1);
        LampStrip one = Checks.made("strip 1 1;bad 0 stutter 2;fill 0 0 9 9 9;");
        one.show(2);
        one.fill(0, 0, 7, 7, 7);
        one.show(1);
        due("nothing of the old row comes back", one.pixel(0, 5), Checks.color(7, 7, 7));
        due("frames", one.pixel(0, 3), 3);
    }

    @Sentence(promise = 8, value = "A pixel that is dead, burnt or bypassed shows black; another one shows the "
            + "color that it took last (black if none), shared as follows.")
    private static void whoShowsBlack() {
        LampStrip x = Checks.made("strip 5 1;fill 0 4 7 7 7;");
        due("none was taken", x.pixel(0, 4), 0);
        x.show(1);
        x.damage(1, 1, 0);
        x.damage(2, 2, 0);
        x.bypass(3, true);
        x.damage(4, 3, 2);
        int color = Checks.color(7, 7, 7);
        int[] shown = {color, 0, 0, 0, color};
        for (int pixel = 0; pixel < 5; pixel++) {
            due("shown by " + pixel, x.pixel(pixel, 4), shown[pixel]);
            due("taken by " + pixel, x.pixel(pixel, 5), color);
        }
        x.damage(1, 0, 0);
        x.bypass(3, false);
        due("mended", x.pixel(1, 4), color);
        due("not bypassed any more", x.pixel(3, 4), color);
    }

    @Sentence(promise = 9, value = "The load of a feed is the sum, over all pixels that it feeds and that are good "
            + "or stuttering, and not bypassed, of (red + green + blue of the color that was taken last) * unit / "
            + "765.")
    private static void loadIsSummedByPixel() {
        int[][] rows = {{1, 254, 255, 255, 0}, {1, 255, 255, 255, 3}, {100, 7, 0, 0, 0}, {100, 0, 8, 0, 3},
            {100, 0, 0, 15, 3}, {100, 5, 5, 6, 6}, {100, 255, 255, 254, 297}};
        for (int[] row : rows) {
            LampStrip x = Checks.made("strip 6 " + row[0] + ";fill 0 5 " + row[1] + " " + row[2] + " " + row[3] + ";");
            x.show(1);
            x.damage(1, 1, 0);
            x.damage(2, 2, 0);
            x.damage(3, 3, 2);
            x.bypass(4, true);
            due("three with " + row[1] + " " + row[2] + " " + row[3], x.feed(0, 2), row[4]);
        }
        LampStrip whole = Checks.made("strip 40 100;fill 0 39 255 255 255;");
        due("none was taken", whole.feed(0, 2), 0);
        whole.show(1);
        due("the greatest load", whole.feed(0, 2), 4000);
        for (int pixel = 0; pixel < 40; pixel++) {
            whole.bypass(pixel, true);
        }
        due("all are bypassed", whole.feed(0, 2), 0);
    }

    @Sentence(promise = 8, value = "If the load is greater than the limit, each channel that such a pixel shows is "
            + "its channel times the limit, divided by the load.")
    private static void sharedAboveTheLimit() {
        LampStrip x = Checks.made("strip 4 100;feed 1 100;feed 3 50;fill 0 3 251 127 5;");
        x.show(1);
        x.damage(2, 3, 2);
        due("load of two with 50", x.feed(1, 2), 100);
        int[][] shares = {{9999, 251, 127, 5}, {101, 251, 127, 5}, {100, 251, 127, 5}, {99, 248, 125, 4},
            {50, 125, 63, 2}, {1, 2, 1, 0}, {0, 0, 0, 0}};
        for (int[] share : shares) {
            x.limit(1, share[0]);
            due("a good one, limit " + share[0], x.pixel(1, 4), Checks.color(share[1], share[2], share[3]));
            due("a stuttering one, limit " + share[0], x.pixel(2, 4), Checks.color(share[1], share[2], share[3]));
            due("that of the feed ahead", x.pixel(0, 4), Checks.color(251, 127, 5));
            due("that of the feed behind", x.pixel(3, 4), Checks.color(251, 127, 5));
        }
    }

    @Sentence(promise = 7, value = "A pixel is wrong if it is not bypassed, and is dead or burnt, or the color that "
            + "it took last (black if none) is not its due color.")
    private static void whoIsWrong() {
        LampStrip x = Checks.made("strip 3 1;bad 0 stutter 2;bad 1 dead;fill 2 2 0 0 9;");
        due("a dead one, black as is due", x.state(6), 1);
        x.show(1);
        due("none was taken, and it is not black that is due", x.state(6), 2);
        x.bypass(1, true);
        due("a bypassed dead one", x.state(6), 1);
        x.fill(2, 2, 0, 0, 0);
        due("the due color is that of the last show", x.state(6), 1);
        x.show(1);
        due("a stuttering one, and the colors are the same", x.state(6), 0);
        x.damage(2, 2, 0);
        due("a burnt one with its due color", x.state(6), 1);
        x.bypass(2, true);
        due("a bypassed burnt one", x.state(6), 0);
        LampStrip all = Checks.made("strip 40 1;fill 0 39 1 1 1;bad 0 dead;");
        due("all", all.show(1), 40);
        all.bypass(7, true);
        due("a bypassed one with another color", all.state(6), 39);
    }
}
