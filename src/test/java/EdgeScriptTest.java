/** The edges that the document names for scripts, for run, and for what is told of texts. */
public final class EdgeScriptTest {
    private static final String WHOLE = "fill 0 4 1 2 3;shift 1;level 9;show;bypass 1;"
            + "repeat 2(show;repeat 3(shift 2;););";

    private EdgeScriptTest() {
    }

    public static void main(String[] args) {
        Edges.runAll(EdgeScriptTest.class);
    }

    private static void due(String what, long got, long want) {
        Checks.due(what, got, want);
    }

    private static void error(String marked, int code) {
        Edges.scriptError(marked, code);
    }

    private static void good(String text, int commands) {
        Edges.goodScript(text, commands);
    }

    @Sentence(promise = 4, value = "A script is read from the same buffer.")
    private static void scriptOf600Bytes() {
        String start = "shift 1;" + Edges.times(584, " ");
        LampStrip x = Checks.made("strip 5 5;");
        due("600 bytes", Checks.run(x, start + "level 7;"), 2);
        due("the last command counts", x.state(2), 7);
        Checks.put(x, start + "level 9;");
        due("599 of them", x.run(599), Edges.SYNTAX);
        due("the offset behind these", x.errorOffset(), 599);
        due("600 that end too early", Checks.run(x, start + "level 9 "), Edges.SYNTAX);
        due("the offset behind those", x.errorOffset(), 600);
        due("an error in the last byte", Checks.run(x, start + "       !"), Edges.SYNTAX);
        due("the last offset", x.errorOffset(), 599);
        Checks.put(x, "strip 3 3;          level 8;");
        due("load reads the same one", x.load(20), 3);
        due("which is empty then", x.run(0), 0);
        due("the level", x.state(2), 255);
    }

    @Sentence(promise = 4, value = "script = { command \";\" }")
    private static void grammarOfScripts() {
        good("", 0);
        good("show;", 1);
        good(" show ; show ; ", 2);
        good("show;shift 1;level 1;bypass 1;fill 0 0 1 1 1;repeat 1();", 5);
        error("^;", Edges.SYNTAX);
        error("show;^;", Edges.SYNTAX);
        error("show ^show;", Edges.SYNTAX);
        error("show;^)", Edges.SYNTAX);
        error("^(show;);", Edges.SYNTAX);
        error("^1;", Edges.SYNTAX);
        error("^strip 5 5;", Edges.SYNTAX);
    }

    @Sentence(promise = 4, value = "command = \"fill\" number number color | \"shift\" number | \"level\" number | "
            + "\"show\" | \"bypass\" number | \"repeat\" number \"(\" script \")\"")
    private static void grammarOfCommands() {
        good("repeat 2();", 0);
        good("repeat 2 ( ) ;", 0);
        good("repeat2(show;);", 2);
        good("repeat 2(repeat 2(););", 0);
        error("fill^;", Edges.SYNTAX);
        error("fill 0 0 1 1^;", Edges.SYNTAX);
        error("fill 0 0 1 1 1 ^1;", Edges.SYNTAX);
        error("shift^;", Edges.SYNTAX);
        error("shift 1 ^1;", Edges.SYNTAX);
        error("level^;", Edges.SYNTAX);
        error("level ^x;", Edges.SYNTAX);
        error("show ^1;", Edges.SYNTAX);
        error("bypass^;", Edges.SYNTAX);
        error("bypass 1 ^1;", Edges.SYNTAX);
        error("repeat^;", Edges.SYNTAX);
        error("repeat ^(show;);", Edges.SYNTAX);
        error("repeat 2^;", Edges.SYNTAX);
        error("repeat 2 ^show;", Edges.SYNTAX);
        error("repeat 2(show^);", Edges.SYNTAX);
        error("repeat 2(^;);", Edges.SYNTAX);
        error("repeat 2(show;)^)", Edges.SYNTAX);
        error("repeat 2(show;) ^show;", Edges.SYNTAX);
        error("repeat 2(^(show;););", Edges.SYNTAX);
        for (String word : new String[] {"feed 1 1", "bad 1 dead", "curve x", "shows", "sho", "showshow", "undo",
            "Show"}) {
            error("^" + word + ";", Edges.SYNTAX);
        }
    }

    @Sentence(promise = 4, value = "The commands are as the methods fill, shift, level, show(1), and bypass with "
            + "true;")
    private static void commandsAreAsTheMethods() {
        LampStrip x = Edges.rich();
        LampStrip y = Edges.rich();
        Checks.run(x, "fill 2 4 255 0 9;shift 13;level 0;show;level 255;show;bypass 0;"
                + "bypass 11;bypass 11;show;shift 0;");
        y.fill(2, 4, 255, 0, 9);
        y.shift(13);
        y.level(0);
        y.show(1);
        y.level(255);
        y.show(1);
        y.bypass(0, true);
        y.bypass(11, true);
        y.show(1);
        Checks.dueTrue("the same data", Edges.dataOf(x).equals(Edges.dataOf(y)));
    }

    @Sentence(promise = 4, value = "numbers are 0 to 9999, that of repeat is 1 to 20; repeat does the commands in "
            + "parentheses so many times.")
    private static void numbersOfScripts() {
        Edges.scriptNumber("shift ", 0, 9999, ";");
        Edges.scriptNumber("level ", 0, 9999, ";");
        Edges.scriptNumber("bypass ", 0, 9999, ";");
        Edges.scriptNumber("fill ", 0, 9999, " 0 0 0 0;");
        Edges.scriptNumber("fill 0 ", 0, 9999, " 0 0 0;");
        Edges.scriptNumber("fill 0 0 ", 0, 9999, " 0 0;");
        Edges.scriptNumber("fill 0 0 0 ", 0, 9999, " 0;");
        Edges.scriptNumber("fill 0 0 0 0 ", 0, 9999, ";");
        Edges.scriptNumber("repeat ", 1, 20, "(show;);");
        Edges.scriptNumber("repeat 2(repeat ", 1, 20, "(show;););");
        error("shift ^" + Edges.times(500, "9") + ";", Edges.RANGE);
        for (int times = 1; times <= 20; times++) {
            good("repeat " + times + "(show;);", times);
            good("repeat " + times + "(show;shift 1;);level 3;", 2 * times + 1);
        }
        good("repeat 3(show;repeat 4(show;repeat 5(show;);show;););", 3 * (1 + 4 * (2 + 5)));
        LampStrip x = Checks.made("strip 5 5;fill 0 0 0 0 1;");
        Checks.run(x, "repeat 3(shift 1;);");
        due("moved three times", x.pixel(3, 8), 1);
    }

    @Sentence(promise = 4, value = "Repeats nest at most 3 deep.")
    private static void repeatsNest3Deep() {
        good("repeat 2(repeat 2(repeat 2(show;);););", 8);
        good("repeat 2(repeat 2(repeat 2(););repeat 2(show;););", 4);
        good("repeat 1();repeat 1();repeat 1();repeat 1(show;);", 1);
        good("repeat 1(repeat 1(repeat 1();repeat 1();repeat 1(show;););repeat 1(repeat 1(show;);););", 2);
        error("repeat 2(repeat 2(repeat 2(^repeat 2(show;););););", Edges.DEEP);
        error("repeat 2(repeat 2(repeat 2(show;);repeat 2(^repeat 1();););", Edges.DEEP);
    }

    @Sentence(promise = 4, value = "A script ends early at a command that would throw an exception (it is not "
            + "done), or when 200 commands (repeats not counted) were done.")
    private static void scriptEndsEarly() {
        good("show;level 256;show;", 1);
        good("bypass 5;show;", 0);
        good("repeat 20(show;fill 0 5 0 0 0;);show;", 1);
        good("repeat 2(repeat 2(show;repeat 2(bypass 5;);););show;", 1);
        good("repeat 20(repeat 10(show;););", 200);
        good("repeat 20(repeat 10(show;););show;", 200);
        good("repeat 19(repeat 10(show;););repeat 9(show;);", 199);
        good("repeat 19(repeat 10(show;););repeat 9(show;);level 1;", 200);
        good("repeat 19(repeat 10(show;););repeat 9(show;);level 1;level 2;", 200);
        good("repeat 20(repeat 20(repeat 20(show;);););", 200);
        good("repeat 20(repeat 20(repeat 20();););show;", 1);
        LampStrip x = Checks.made("strip 5 5;fill 0 4 1 1 1;");
        Checks.run(x, "show;level 9;fill 0 5 0 0 0;level 8;show;");
        due("what was done ahead stays", x.state(2), 9);
        due("the rest is not done", x.state(5), 1);
        due("nor is that one", x.pixel(0, 8), Checks.color(1, 1, 1));
        Checks.run(x, "repeat 20(repeat 10(shift 1;););level 7;");
        due("a 201st is not done", x.state(2), 9);
        Checks.run(x, "repeat 19(repeat 10(shift 1;););repeat 9(show;);level 7;level 6;");
        due("the 200th is done", x.state(2), 7);
    }

    @Sentence(promise = 4, value = "a 61st command (repeats counted), at its first letter.")
    private static void tooManyCommands() {
        String shows = Edges.times(59, "show;");
        good(shows + "show;", 60);
        good(shows + "repeat 1();", 59);
        good(Edges.times(58, "show;") + "repeat 1(show;);", 59);
        good(Edges.times(20, "repeat 1(repeat 1(show;););"), 20);
        error(shows + "show;   ^show;", Edges.MANY);
        error(shows + "show;^repeat 1();", Edges.MANY);
        error(shows + "repeat 1();^show;", Edges.MANY);
        error(shows + "repeat 1(^show;);", Edges.MANY);
        error(Edges.times(20, "repeat 1(repeat 1(show;););") + "^show;", Edges.MANY);
        error(Edges.times(20, "repeat 1(repeat 1(show;););") + "^repeat 1();", Edges.MANY);
        error(shows + "show;^level", Edges.MANY);
        error(shows + "show;^shift 99999;", Edges.MANY);
    }

    @Sentence(promise = 4, value = "a repeat inside 3 others, at its first letter.")
    private static void tooDeepRepeats() {
        error("repeat 1(repeat 1(repeat 1(   ^repeat 1();););", Edges.DEEP);
        error("repeat 1(repeat 1(repeat 1(show;^repeat", Edges.DEEP);
        error("repeat 1(repeat 1(repeat 1(^repeat 99();););", Edges.DEEP);
        error("repeat 1(show;repeat 1(show;repeat 1(show;show;^repeat 0", Edges.DEEP);
        good("repeat 1(show;repeat 1(show;repeat 1(show;show;);););", 4);
    }

    @Sentence(promise = 4, value = "If several kinds of error have the same offset, the first one in this list "
            + "counts:")
    private static void firstKindAtTheSameOffset() {
        String shows = Edges.times(57, "show;");
        error(shows + "show;show;show;^shows;", Edges.SYNTAX);
        error(shows + "show;show;show;^;", Edges.SYNTAX);
        error(shows + "show;show;show;^99999;", Edges.SYNTAX);
        error("repeat 1(repeat 1(repeat 1(^repeats 1();););", Edges.SYNTAX);
        error(shows + "repeat 1(repeat 1(repeat 1(^repeat 1();););", Edges.MANY);
        error(Edges.times(56, "show;") + "repeat 1(repeat 1(repeat 1(^repeat 1();););", Edges.DEEP);
        error("show ^99999;", Edges.SYNTAX);
    }

    @Sentence(promise = 4, value = "The first error in a text is the one with the smallest offset.")
    private static void smallestOffset() {
        error("level ^10000;what", Edges.RANGE);
        error("^what;level 10000;", Edges.SYNTAX);
        error("repeat ^0(show;", Edges.RANGE);
        error("repeat 1(repeat 1(repeat 1(level ^10000;repeat 1();););", Edges.RANGE);
        error("repeat 1(repeat 1(repeat 1(^repeat 1(level 10000;););", Edges.DEEP);
        error(Edges.times(60, "show;") + "^show 1;level 10000", Edges.MANY);
        error(Edges.times(59, "show;") + "shift ^10000;show;", Edges.RANGE);
    }

    @Sentence(promise = 4, value = "the end of the text, at its length, if the text ends too early;")
    private static void textEndsTooEarly() {
        for (int length = 1; length < WHOLE.length(); length++) {
            String text = WHOLE.substring(0, length);
            if (text.endsWith(";") && text.indexOf('(') < 0) {
                continue;
            }
            if (isLetter(WHOLE.charAt(length - 1)) && isLetter(WHOLE.charAt(length))) {
                int start = length;
                while (start > 0 && isLetter(WHOLE.charAt(start - 1))) {
                    start--;
                }
                error(WHOLE.substring(0, start) + "^" + WHOLE.substring(start, length), Edges.SYNTAX);
            } else {
                error(text + "^", Edges.SYNTAX);
                error(text + "   ^", Edges.SYNTAX);
            }
        }
        good(WHOLE, 13);
    }

    private static boolean isLetter(char letter) {
        return letter >= 'a' && letter <= 'z';
    }

    @Sentence(promise = 4, value = "Reads the first bytes of the input buffer as a script and runs it.")
    private static void readsTheFirstBytes() {
        LampStrip x = Checks.made("strip 5 5;");
        int[] lengths = {0, 3, 4, 5, 11, 12, 13, 14};
        int[] answers = {0, -2, -2, 1, -2, -2, -2, 2};
        int[] offsets = {-1, 0, 4, -1, 11, 12, 13, -1};
        for (int i = 0; i < lengths.length; i++) {
            Checks.put(x, "show;shift 12;!");
            due("the first " + lengths[i], x.run(lengths[i]), answers[i]);
            due("offset in " + lengths[i], x.errorOffset(), offsets[i]);
        }
        Checks.put(x, "shift 99999;");
        due("a digit behind them is not read", x.run(10), Edges.SYNTAX);
        due("its offset", x.errorOffset(), 10);
    }

    @Sentence(promise = 4, value = "The input buffer is empty afterwards, also if the text has an error.")
    private static void bufferIsEmptyBehindRun() {
        String text = Edges.times(29, "                    ");
        for (int length : new int[] {0, 1, 4, 5, 600}) {
            LampStrip x = Checks.made("strip 5 5;");
            Checks.put(x, "show;               " + text);
            due("run of " + length, x.run(length), length == 0 ? 0 : length < 5 ? Edges.SYNTAX : 1);
            due("append behind it", x.append(Edges.SPACES, Edges.SPACES, Edges.SPACES, Edges.SPACES, Edges.SPACES), 20);
            due("nothing of the old text is left", x.run(20), 0);
        }
        LampStrip early = Checks.made("strip 5 5;");
        Checks.run(early, "level 256;show;");
        due("append behind one that ended early", early.append(0, 0, 0, 0, 0), 20);
    }

    @Sentence(promise = 4, value = "An error leaves all other data unchanged.")
    private static void errorLeavesTheData() {
        error("show;level 3;bypass 0;shift 1;^what", Edges.SYNTAX);
        error("show;level ^10000;", Edges.RANGE);
        error("fill 0 0 9 9 9;" + Edges.times(59, "show;") + "^show;", Edges.MANY);
        error("show;repeat 1(repeat 1(repeat 1(^repeat", Edges.DEEP);
        error("level 256;^what", Edges.SYNTAX);
    }

    @Sentence(promise = 4, value = "An empty text is a script without commands.")
    private static void emptyTextOfRun() {
        LampStrip x = new LampStrip();
        due("of an empty buffer", x.run(0), 0);
        due("no error", x.errorOffset(), -1);
        due("its ending", x.ending(), 0);
        due("it is a change", x.undo(), 0);
        Checks.put(x, "what");
        due("of a buffer with a text", x.run(0), 0);
        due("no error, again", x.errorOffset(), -1);
        due("the buffer is empty", x.append(0, 0, 0, 0, 0), 20);
        LampStrip y = Edges.rich();
        String before = Edges.dataOf(y);
        due("of one with data", y.run(0), 0);
        Checks.dueTrue("the data stay", Edges.dataOf(y).equals(before));
        due("the history is full, too", y.undo(), 7);
        Checks.dueTrue("the data stay behind undo", Edges.dataOf(y).equals(before));
    }

    @Sentence(promise = 4, value = "Returns the number of commands that were done (repeats not counted); or the "
            + "error code of the first error.")
    private static void runReturns() {
        good("repeat 20();", 0);
        good("repeat 20(show;);", 20);
        good("level 256;", 0);
        good("level 255;level 256;level 254;", 1);
        LampStrip x = Checks.made("strip 5 5;");
        due("SYNTAX_ERROR", Checks.run(x, "x"), LampStrip.SYNTAX_ERROR);
        due("OUT_OF_RANGE", Checks.run(x, "repeat 0"), LampStrip.OUT_OF_RANGE);
        due("TOO_MANY", Checks.run(x, Edges.times(61, "show;")), LampStrip.TOO_MANY);
        due("TOO_DEEP", Checks.run(x, Edges.times(4, "repeat 1(")), LampStrip.TOO_DEEP);
        due("nothing was done", x.state(5), 0);
    }

    @Sentence(promise = 4, value = "Throws `IllegalArgumentException` if length is negative or greater than the "
            + "length of the buffer; the buffer is unchanged then")
    private static void lengthsOfRun() {
        for (int length : new int[] {-1, 21, 600, 601, Integer.MIN_VALUE, Integer.MAX_VALUE}) {
            Edges.refused("run(" + length + ") of 20", Edges.ARGUMENT, Edges::richWithText, x -> x.run(length));
        }
        for (int length : new int[] {-1, 1, Integer.MIN_VALUE, Integer.MAX_VALUE}) {
            Edges.refused("run(" + length + ") of 0", Edges.ARGUMENT, Edges::rich, x -> x.run(length));
            Edges.refused("run(" + length + ") of a new one", Edges.ARGUMENT, LampStrip::new, x -> x.run(length));
        }
        Edges.refused("run(601) of 600", Edges.ARGUMENT, EdgeScriptTest::full, x -> x.run(601));
        due("run(600) of 600", full().run(600), 1);
        due("run(5) of 600", full().run(5), 1);
        LampStrip x = Edges.richWithText();
        Checks.dueThrow("run(21)", x, Edges.ARGUMENT, () -> x.run(21));
        due("the text is still there", x.run(20), 2);
    }

    private static LampStrip full() {
        LampStrip x = new LampStrip();
        Checks.put(x, "show;" + Edges.times(595, " "));
        return x;
    }

    @Sentence(promise = 5, value = "Returns the offset of the error found by the latest call of load or run that "
            + "did not throw; -1 if it found none or if there was no such call.")
    private static void errorOffsetOfTheLatest() {
        LampStrip x = new LampStrip();
        due("no such call", x.errorOffset(), -1);
        Checks.dueThrow("load", x, Edges.ARGUMENT, () -> x.load(1));
        Checks.dueThrow("run", x, Edges.ARGUMENT, () -> x.run(1));
        due("only such that threw", x.errorOffset(), -1);
        Checks.load(x, "what");
        due("the offset 0 of load", x.errorOffset(), 0);
        Checks.run(x, "show;what");
        due("that of run", x.errorOffset(), 5);
        Checks.dueThrow("load", x, Edges.ARGUMENT, () -> x.load(-1));
        Checks.dueThrow("run", x, Edges.ARGUMENT, () -> x.run(-1));
        due("it stays if they throw", x.errorOffset(), 5);
        x.append(0, 0, 0, 0, 0);
        x.keep(0);
        x.restore(0);
        x.show(1);
        x.undo();
        due("it stays behind all others", x.errorOffset(), 5);
        Checks.load(x, "strip 5 5;");
        due("the buffer was not empty", x.errorOffset(), 0);
        Checks.load(x, "strip 5 5;");
        due("none of load", x.errorOffset(), -1);
        Checks.run(x, "show");
        due("the end of run", x.errorOffset(), 4);
        Checks.run(x, "level 256;");
        due("none of run, that ended early", x.errorOffset(), -1);
        Checks.load(x, Edges.times(600, " "));
        due("the last offset that there can be", x.errorOffset(), 600);
    }

    @Sentence(promise = 6, value = "Returns why the latest script that had no error ended: 0 at its end, or there "
            + "was none; 1 when 200 commands were done and another one (other than a repeat) would have come; 2 at "
            + "a command that would throw IllegalArgumentException, 3 at one that would throw "
            + "IndexOutOfBoundsException.")
    private static void endings() {
        due("there was none", new LampStrip().ending(), 0);
        String most = "repeat 19(repeat 10(show;););repeat 9(show;);";
        ending("", 0);
        ending("show;", 0);
        ending(most, 0);
        ending(most + "show;", 0);
        ending(most + "show;show;", 1);
        ending(most + "show;repeat 1();", 0);
        ending(most + "show;repeat 20(repeat 20(repeat 20();););", 0);
        ending(most + "show;repeat 1(repeat 1(show;););", 1);
        ending(most + "show;repeat 1();show;", 1);
        ending(most + "show;bypass 9999;", 1);
        ending(most + "show;level 9999;", 1);
        ending(most + "bypass 9999;", 3);
        ending(most + "level 9999;", 2);
        ending("repeat 20(repeat 10(show;););", 0);
        ending("repeat 20(repeat 11(show;););", 1);
        ending("level 255;shift 9999;show;bypass 4;fill 4 4 255 255 255;fill 0 4 0 0 0;", 0);
        ending("level 256;", 2);
        ending("level 9999;", 2);
        ending("bypass 5;", 3);
        ending("fill 5 4 0 0 0;", 3);
        ending("fill 4 5 0 0 0;", 3);
        ending("fill 1 0 0 0 0;", 2);
        ending("fill 0 0 256 0 0;", 2);
        ending("fill 0 0 0 256 0;", 2);
        ending("fill 0 0 0 0 256;", 2);
        ending("fill 5 0 256 0 0;", 3);
        ending("fill 1 5 256 0 0;", 3);
    }

    /** Behind each other ending, so that it is seen to be a new one. */
    private static void ending(String text, int want) {
        String much = "repeat 20(repeat 11(show;););";
        for (String ahead : new String[] {"show;", much, "level 256;", "bypass 5;"}) {
            LampStrip x = Checks.made("strip 5 5;");
            Checks.run(x, ahead);
            Checks.dueTrue("no error in " + text, Checks.run(x, text) >= 0);
            due("ending of " + text, x.ending(), want);
            Checks.run(x, "what");
            Checks.load(x, "what");
            Checks.load(x, "strip 5 5;");
            x.keep(0);
            x.restore(0);
            x.undo();
            due("it stays until the next script without an error: " + text, x.ending(), want);
        }
    }
}
