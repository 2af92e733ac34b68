/** The edges that the document names for setup texts, and for load. */
public final class EdgeSetupTest {
    private static final String START = "strip 5 5;";
    /** With each statement of the grammar; it is at its end behind each semicolon. */
    private static final String WHOLE = "strip 5 6;feed 2 3;bad 1 stutter 2;bad 3 dead;bad 4 burnt;"
            + "fill 0 4 1 2 3;level 9;curve(x+1)*level-2/x;";

    private EdgeSetupTest() {
    }

    public static void main(String[] args) {
        Edges.runAll(EdgeSetupTest.class);
    }

    private static void due(String what, long got, long want) {
        Checks.due(what, got, want);
    }

    private static void error(String marked, int code) {
        Edges.setupError(marked, code);
    }

    private static void good(String text) {
        Edges.goodSetup(text, 5);
    }

    @Sentence(promise = 3, value = "The setup text is read from an input buffer of at most 600 bytes.")
    private static void textOf600Bytes() {
        String start = START + Edges.times(582, " ");
        LampStrip x = Checks.made(start + "level 7;");
        due("the last statement counts", x.state(2), 7);
        Checks.put(x, start + "level 9;");
        due("599 of them", x.load(599), Edges.SYNTAX);
        due("the offset behind these", x.errorOffset(), 599);
        due("600 that end too early", Checks.load(x, start + "level 9 "), Edges.SYNTAX);
        due("the offset behind those", x.errorOffset(), 600);
        due("an error in the last byte", Checks.load(x, start + "       !"), Edges.SYNTAX);
        due("the last offset", x.errorOffset(), 599);
        due("the level stays", x.state(2), 7);
    }

    @Sentence(promise = 3, value = "setup = \"strip\" number number \";\" { statement \";\" }")
    private static void grammarOfSetup() {
        good(START);
        good(START + "level 1;");
        good(START + "feed 1 1;bad 1 dead;fill 0 0 1 1 1;level 1;curve 1;feed 2 1;bad 2 burnt;bad 3 stutter 3;");
        good(START + Edges.times(39, "fill 0 0 1 1 1;"));
        error("^", Edges.SYNTAX);
        error("^;", Edges.SYNTAX);
        error("^level 1;", Edges.SYNTAX);
        error("strip ^;", Edges.SYNTAX);
        error("strip 5^;", Edges.SYNTAX);
        error("strip 5 5 ^5;", Edges.SYNTAX);
        error(START + "^;", Edges.SYNTAX);
        error(START + "level 1;^;", Edges.SYNTAX);
        error(START + "^strip 5 5;", Edges.SYNTAX);
        error(START + "level 1 ^fill 0 0 1 1 1;", Edges.SYNTAX);
    }

    @Sentence(promise = 3, value = "statement = \"feed\" number number | \"bad\" number ( \"dead\" | \"burnt\" | "
            + "\"stutter\" number ) | \"fill\" number number color | \"level\" number | \"curve\" sum")
    private static void grammarOfStatements() {
        error(START + "feed ^;", Edges.SYNTAX);
        error(START + "feed 1^;", Edges.SYNTAX);
        error(START + "feed 1 1 ^1;", Edges.SYNTAX);
        error(START + "bad ^;", Edges.SYNTAX);
        error(START + "bad ^dead;", Edges.SYNTAX);
        error(START + "bad 1^;", Edges.SYNTAX);
        error(START + "bad 1 ^1;", Edges.SYNTAX);
        error(START + "bad 1 ^good;", Edges.SYNTAX);
        error(START + "bad 1 dead ^2;", Edges.SYNTAX);
        error(START + "bad 1 burnt ^2;", Edges.SYNTAX);
        error(START + "bad 1 stutter^;", Edges.SYNTAX);
        error(START + "bad 1 stutter 2 ^2;", Edges.SYNTAX);
        error(START + "bad 1 dead ^burnt;", Edges.SYNTAX);
        error(START + "fill^;", Edges.SYNTAX);
        error(START + "fill 0 0 1 1^;", Edges.SYNTAX);
        error(START + "fill 0 0 1 1 1 ^1;", Edges.SYNTAX);
        error(START + "level^;", Edges.SYNTAX);
        error(START + "level 1 ^1;", Edges.SYNTAX);
        error(START + "level ^level;", Edges.SYNTAX);
        error(START + "curve^;", Edges.SYNTAX);
        for (String word : new String[] {"show", "shift 1", "bypass 1", "repeat 1()", "dead", "x", "feeds 1 1",
            "fee 1"}) {
            error(START + "^" + word + ";", Edges.SYNTAX);
        }
    }

    @Sentence(promise = 3, value = "factor = number | \"x\" | \"level\" | \"(\" sum \")\"")
    private static void grammarOfSums() {
        String start = START + "curve ";
        for (String text : new String[] {"1", "x", "level", "(1)", "x+x", "1-x*x/x+1", "(x)*(x)", "x*(x+1)-(2)"}) {
            good(start + text + ";");
        }
        for (String sign : new String[] {"+", "-", "*", "/"}) {
            error(start + "^" + sign + "1;", Edges.SYNTAX);
            error(start + "1" + sign + "^;", Edges.SYNTAX);
            error(start + "1" + sign + "^" + sign + "1;", Edges.SYNTAX);
            error(start + "(1" + sign + "^);", Edges.SYNTAX);
            error(start + "(^" + sign + "1);", Edges.SYNTAX);
        }
        error(start + "^;", Edges.SYNTAX);
        error(start + "(^);", Edges.SYNTAX);
        error(start + "^);", Edges.SYNTAX);
        error(start + "(1^;", Edges.SYNTAX);
        error(start + "(1)^);", Edges.SYNTAX);
        error(start + "1^(1);", Edges.SYNTAX);
        error(start + "(1)^(1);", Edges.SYNTAX);
        error(start + "(1)^1;", Edges.SYNTAX);
        error(start + "1 ^1;", Edges.SYNTAX);
        error(start + "x ^x;", Edges.SYNTAX);
        error(start + "2^x;", Edges.SYNTAX);
        error(start + "x^2;", Edges.SYNTAX);
        error(start + "^y;", Edges.SYNTAX);
        error(start + "^curve;", Edges.SYNTAX);
    }

    @Sentence(promise = 3, value = "sum = term { ( \"+\" | \"-\" ) term }")
    private static void longestSums() {
        String start = START + "level 9;fill 0 0 1 1 1;curve ";
        LampStrip x = Checks.made(start + Edges.times(279, "1+") + "1;");
        x.show(1);
        due("280 times 1", x.pixel(0, 6), Checks.color(255, 255, 255));
        Checks.load(x, start + Edges.times(139, "1-1+") + "7;");
        x.show(1);
        due("up to the last operand", x.pixel(0, 6), Checks.color(7, 7, 7));
        Checks.load(x, start + Edges.times(139, "1*1*") + "7;");
        x.show(1);
        due("of a term", x.pixel(0, 6), Checks.color(7, 7, 7));
    }

    @Sentence(promise = 3, value = "term = factor { ( \"*\" | \"/\" ) factor }")
    private static void termsAheadOfSums() {
        String[] sums = {"1+2*3", "2*3+1", "9-8/4", "8/4+5", "1+2*3-8/4+2", "2*3+8/4-1", "100-7*9/3-4*5-52",
            "x+x*x+x*x*x-32"};
        for (String sum : sums) {
            LampStrip x = Checks.made(START + "fill 0 0 3 3 3;curve " + sum + ";");
            x.show(1);
            due(sum, x.pixel(0, 6), Checks.color(7, 7, 7));
        }
    }

    @Sentence(promise = 3, value = "color = number number number")
    private static void colorsOfThree() {
        due("red, green and blue", Checks.made(START + "fill 0 0 255 1 0;").pixel(0, 8), 255 * 65536 + 256);
        error(START + "fill 0 0^;", Edges.SYNTAX);
        error(START + "fill 0 0 1^;", Edges.SYNTAX);
        error(START + "fill 0 0 1 1^;", Edges.SYNTAX);
        error(START + "fill 0 0 1 1 1 ^1;", Edges.SYNTAX);
        error(START + "fill 0 0 1^,1,1;", Edges.SYNTAX);
    }

    @Sentence(promise = 3, value = "The numbers of strip are how many pixels there are, and the unit.")
    private static void numbersOfStrip() {
        int[][] strips = {{1, 1}, {1, 100}, {40, 1}, {40, 100}, {39, 2}};
        for (int[] strip : strips) {
            LampStrip x = new LampStrip();
            due("pixels", Checks.load(x, "strip " + strip[0] + " " + strip[1] + ";"), strip[0]);
            due("pixels, told", x.state(0), strip[0]);
            due("the unit", x.state(1), strip[1]);
        }
    }

    @Sentence(promise = 3, value = "`SYNTAX_ERROR = -2`: Error code of load and run: the text does not follow the "
            + "grammar.")
    private static void codeOfSyntax() {
        due("the constant", LampStrip.SYNTAX_ERROR, -2);
        due("load", Checks.load(new LampStrip(), "strip 1 1"), -2);
        due("run", Checks.run(new LampStrip(), "show"), -2);
    }

    @Sentence(promise = 3, value = "`OUT_OF_RANGE = -3`: Error code of load and run: a number is not allowed.")
    private static void codeOfRange() {
        due("the constant", LampStrip.OUT_OF_RANGE, -3);
        due("load", Checks.load(new LampStrip(), "strip 41 1;"), -3);
        due("run", Checks.run(new LampStrip(), "level 10000;"), -3);
    }

    @Sentence(promise = 3, value = "`REPEATED = -4`: Error code of load: a pixel is told twice.")
    private static void codeOfRepeated() {
        due("the constant", LampStrip.REPEATED, -4);
        due("load", Checks.load(new LampStrip(), "strip 1 1;feed 0 1;feed 0 1;"), -4);
        due("run has none", Checks.run(new LampStrip(), "bypass 0;bypass 0;"), 2);
    }

    @Sentence(promise = 3, value = "`TOO_MANY = -5`: Error code of load and run: too many feeds, bad pixels or "
            + "commands.")
    private static void codeOfTooMany() {
        due("the constant", LampStrip.TOO_MANY, -5);
        due("load", Checks.load(new LampStrip(), "strip 40 1;" + Edges.bad(11)), -5);
        due("run", Checks.run(new LampStrip(), Edges.times(61, "show;")), -5);
    }

    @Sentence(promise = 3, value = "`TOO_DEEP = -6`: Error code of load and run: parentheses or repeats are nested "
            + "too deeply.")
    private static void codeOfTooDeep() {
        due("the constant", LampStrip.TOO_DEEP, -6);
        due("load", Checks.load(new LampStrip(), "strip 1 1;curve (((((1)))));"), -6);
        due("run", Checks.run(new LampStrip(), "repeat 1(repeat 1(repeat 1(repeat 1(););););"), -6);
    }

    @Sentence(promise = 3, value = "A number is a run of decimal digits, of any length (leading zeros do not "
            + "matter); a word is a run of the letters a to z.")
    private static void numbersAndWords() {
        LampStrip x = Checks.made("strip " + Edges.times(560, "0") + "40 100;");
        due("many zeros", x.state(0), 40);
        Checks.load(x, START + "level " + Edges.times(500, "0") + ";");
        due("zeros alone", x.state(2), 0);
        Checks.load(x, START + "fill 00 000 0000 00000 " + Edges.times(300, "0") + "7;");
        due("zeros ahead of each number", x.pixel(0, 8), 7);
        for (String number : new String[] {"256", "999999", "1000000", "1000001", "10000000", "2147483648",
            "4294967296", "4294967303", "18446744073709551616", "18446744073709551623",
            "340282366920938463463374607431768211463",
            Edges.times(500, "9"), "1" + Edges.times(500, "0")}) {
            error(START + "level ^" + number + ";", Edges.RANGE);
            error(START + "level ^000" + number + ";", Edges.RANGE);
        }
        for (String other : new String[] {"/", ":", "-1", "+1", "`", "{", "a", "z", "A"}) {
            error(START + "level 1^" + other + ";", Edges.SYNTAX);
        }
        for (String other : new String[] {"`", "{", "@", "[", "A", "Z", "_", "/", ":"}) {
            error(START + "level^" + other + " 1;", Edges.SYNTAX);
            error(START + "^" + other + "level 1;", Edges.SYNTAX);
        }
        for (String word : new String[] {"levela 1", "levelz 1", "alevel 1", "zlevel 1", "LEVEL 1", "lEvel 1"}) {
            error(START + "^" + word + ";", Edges.SYNTAX);
        }
    }

    @Sentence(promise = 3, value = "Each run is as long as possible.")
    private static void runsAreLong() {
        error("strip 11^;", Edges.SYNTAX);
        error("strip ^55;", Edges.RANGE);
        error("^stripstrip 5 5;", Edges.SYNTAX);
        error(START + "feed ^11;", Edges.RANGE);
        error(START + "fill 0 0 1 11^;", Edges.SYNTAX);
        error(START + "bad 1 ^deaddead;", Edges.SYNTAX);
        error(START + "bad 1 ^stutters;", Edges.SYNTAX);
        error(START + "curve ^xx;", Edges.SYNTAX);
        error(START + "curve ^xlevel;", Edges.SYNTAX);
        error(START + "curve ^levellevel;", Edges.SYNTAX);
        LampStrip x = Checks.made("strip 12 34;level 123;");
        due("two digits", x.state(0), 12);
        due("two digits again", x.state(1), 34);
        due("three digits", x.state(2), 123);
    }

    @Sentence(promise = 3, value = "Spaces (byte 32) may precede any token and may follow the last one; a word and "
            + "a number side by side need none between them.")
    private static void spacesAnywhere() {
        String[] texts = {
            "strip5 6;feed2 3;bad1stutter2;bad3dead;fill0 4 1 2 3;level9;curve(x+1)*level-2/x;",
            "   strip   5   6   ;   feed   2   3   ;   bad   1   stutter   2   ;   bad   3   dead   ;   fill   0   4"
                    + "   1   2   3   ;   level   9   ;   curve   (   x   +   1   )   *   level   -   2   /   x   ;   ",
            "strip 5 6 ; feed 2 3 ; bad 1 stutter 2 ; bad 3 dead ; fill 0 4 1 2 3 ; level 9 ; curve ( x + 1 ) * level "
                    + "- 2 / x ; "};
        String want = Edges.dataOf(Checks.made(texts[0]));
        for (String text : texts) {
            LampStrip x = Checks.made(text);
            Checks.dueTrue("the same data: " + text, Edges.dataOf(x).equals(want));
            due("period", x.pixel(1, 2), 2);
            due("dead", x.pixel(3, 0), 1);
        }
        good(START + Edges.times(590, " "));
        good(Edges.times(590, " ") + START);
        error("^s trip 5 5;", Edges.SYNTAX);
        error("strip 5 5;level 1 ^0;", Edges.SYNTAX);
    }

    @Sentence(promise = 3, value = "No other byte separates tokens.")
    private static void noOtherByteSeparates() {
        for (int letter = 0; letter <= 255; letter++) {
            boolean isDigit = letter >= '0' && letter <= '9';
            String text = "strip 1" + (char) letter + "1;";
            if (letter != ' ' && !isDigit) {
                LampStrip x = new LampStrip();
                due("byte " + letter + " between numbers", Checks.load(x, text), Edges.SYNTAX);
                due("its offset", x.errorOffset(), 7);
                due("byte " + letter + " ahead", Checks.load(x, (char) letter + " strip 1 1;"), Edges.SYNTAX);
                due("its offset", x.errorOffset(), 0);
                due("byte " + letter + " behind", Checks.load(x, "strip 1 1;" + (char) letter), Edges.SYNTAX);
                due("its offset", x.errorOffset(), 10);
            }
        }
        due("a space", Checks.load(new LampStrip(), "strip 1 1;"), 1);
    }

    @Sentence(promise = 9, value = "Those of feed are a pixel and a limit (for pixel 0, too; without it its limit "
            + "is 9999); that of bad is a pixel, and behind \"stutter\" its period.")
    private static void numbersOfFeedAndBad() {
        due("without it", Checks.made(START + "feed 1 5;").feed(0, 1), 9999);
        LampStrip x = Checks.made(START + "feed 1 5;feed 0 6;");
        due("that of pixel 0", x.feed(0, 1), 6);
        due("no more feeds by it", x.state(3), 2);
        due("the other one", x.feed(1, 1), 5);
        LampStrip y = Checks.made(START + "bad 4 stutter 9;bad 0 stutter 2;");
        due("period of the last pixel", y.pixel(4, 2), 9);
        due("period of the first one", y.pixel(0, 2), 2);
        Checks.load(y, START);
        due("without it, again", y.feed(0, 1), 9999);
    }

    @Sentence(promise = 3, value = "Those of fill are the first and the last pixel (not less than the first: "
            + "otherwise it is out of its range, in a setup text) that get the color in the frame; a color are its "
            + "three channels.")
    private static void numbersOfFill() {
        int[][] ranges = {{0, 0}, {0, 4}, {4, 4}, {2, 3}, {2, 2}};
        for (int[] range : ranges) {
            LampStrip x = Checks.made(START + "fill " + range[0] + " " + range[1] + " 255 0 1;");
            for (int pixel = 0; pixel < 5; pixel++) {
                boolean isIn = pixel >= range[0] && pixel <= range[1];
                due("frame of " + pixel, x.pixel(pixel, 8), isIn ? Checks.color(255, 0, 1) : 0);
            }
        }
        error(START + "fill 1 ^0 0 0 0;", Edges.RANGE);
        error(START + "fill 4 ^3 0 0 0;", Edges.RANGE);
        error(START + "fill 4 ^0 999 0 0;", Edges.RANGE);
        error(START + "fill 3 ^5 0 0 0;", Edges.RANGE);
        error(START + "fill ^5 4 0 0 0;", Edges.RANGE);
        LampStrip x = Checks.made(START + "fill 0 4 1 1 1;fill 1 2 2 2 2;");
        due("the later one counts", x.pixel(2, 8), Checks.color(2, 2, 2));
        due("where it is", x.pixel(3, 8), Checks.color(1, 1, 1));
    }

    @Sentence(promise = 3, value = "A number as a factor is 0 to 9999.")
    private static void numbersAsFactors() {
        Edges.setupNumber(START + "curve ", 0, 9999, ";");
        Edges.setupNumber(START + "curve x-", 0, 9999, ";");
        Edges.setupNumber(START + "curve x*", 0, 9999, "/2;");
        Edges.setupNumber(START + "curve (1+(", 0, 9999, "));");
        String[] sums = {"0", "0+x-3", "9999-9994", "9999/9999", "0000+00001", "x*0", "level*0"};
        int[] wants = {0, 4, 5, 1, 1, 0, 0};
        for (int i = 0; i < sums.length; i++) {
            LampStrip x = Checks.made(START + "level 9;fill 0 0 7 7 7;curve " + sums[i] + ";");
            x.show(1);
            due(sums[i], x.pixel(0, 6), Checks.color(wants[i], wants[i], wants[i]));
        }
    }

    @Sentence(promise = 3, value = "The statements level (255 without it) and curve may occur once each.")
    private static void levelAndCurveOnce() {
        due("without level", Checks.made(START).state(2), 255);
        LampStrip x = Checks.made(START + "level 9;curve 7;");
        due("with it", x.state(2), 9);
        due("each load may have them", Checks.load(x, START + "curve 3;level 8;"), 5);
        due("its level", x.state(2), 8);
        due("each load may have level alone", Checks.load(x, START + "level 7;"), 5);
        due("without it behind that", Checks.load(x, START), 5);
        due("the level then", x.state(2), 255);
        error(START + "level 9;^level 9;", Edges.SYNTAX);
        error(START + "curve 9;^curve 9;", Edges.SYNTAX);
        error(START + "level 9;fill 0 0 0 0 0;curve level;^level 9;", Edges.SYNTAX);
        error(START + "curve level;level 9;^curve x;", Edges.SYNTAX);
        LampStrip y = new LampStrip();
        Checks.load(y, START + "level 9;curve 7;what");
        due("a text with an error does not count", Checks.load(y, START + "level 8;curve 6;"), 5);
    }

    @Sentence(promise = 3, value = "Parentheses nest at most 4 deep.")
    private static void parenthesesNest4Deep() {
        String start = START + "curve ";
        good(start + "((((x))));");
        good(start + "((((x))))+((((x))))*((((x))));");
        good(start + "1+(1+(1+(1+(1+x))));");
        good(start + "(1)+((1)+((1)+((1)+(1)))*(2))*(3);");
        good(start + Edges.times(70, "(((1)))+") + "1;");
        error(start + "((((^(x)))));", Edges.DEEP);
        error(start + "1+(1+(1+(1+(1+^(x)))));", Edges.DEEP);
        error(start + "(1)*(2*(3*((4)*(5*^(6)))))", Edges.DEEP);
        error(start + "((((1))))-((((2-^(", Edges.DEEP);
        LampStrip x = Checks.made(START + "fill 0 0 1 2 3;curve 9-(8-(7-(6-(5-x))));");
        x.show(1);
        due("what it gives", x.pixel(0, 6), Checks.color(6, 5, 4));
    }

    @Sentence(promise = 3, value = "All colors of the frame are black otherwise, and no pixel is bypassed.")
    private static void blackAndNotBypassed() {
        LampStrip x = Checks.made("strip 40 1;fill 0 39 9 9 9;");
        for (int pixel = 0; pixel < 40; pixel++) {
            x.bypass(pixel, true);
        }
        x.wrongIn(1);
        x.plan(10);
        Checks.load(x, "strip 40 1;fill 1 38 9 9 9;");
        due("the first one", x.pixel(0, 8), 0);
        due("a told one", x.pixel(1, 8), Checks.color(9, 9, 9));
        due("the last one", x.pixel(39, 8), 0);
        due("bypassed", x.state(4), 0);
        due("bypassed, the last one", x.pixel(39, 1), 0);
    }

    @Sentence(promise = 3, value = "The first error in a text is the one with the smallest offset.")
    private static void smallestOffset() {
        error("strip ^0 0 what;", Edges.RANGE);
        error("strip 5 ^0 what;", Edges.RANGE);
        error(START + "^what;feed 9 1;", Edges.SYNTAX);
        error(START + "feed ^9 1;what", Edges.RANGE);
        error(START + "feed ^5 x", Edges.RANGE);
        error(START + "bad 1 dead;bad ^1 what", Edges.REPEATED);
        error(START + "feed 1 1;feed ^1 99999;", Edges.REPEATED);
        error(START + "curve ((((^(99999;", Edges.DEEP);
        error(START + "curve ((((^99999+(1", Edges.RANGE);
        error("strip 40 1;" + Edges.bad(10) + "^bad 1 dead;", Edges.MANY);
        error("strip 40 1;" + Edges.bad(10) + "^bad 99 what", Edges.MANY);
        error("strip 40 1;feed 1 1;feed 2 1;feed 3 1;feed 4 1;feed 5 1;feed ^6 what", Edges.MANY);
        error("strip 40 1;feed 1 1;feed 2 1;feed 3 1;feed 4 1;feed 5 1;feed 0 ^10000;feed 6 1;", Edges.RANGE);
    }

    @Sentence(promise = 3, value = "If several kinds of error have the same offset, the first one in this list "
            + "counts:")
    private static void firstKindAtTheSameOffset() {
        error(START + "fill 0 0 1 1 1 ^99999;", Edges.SYNTAX);
        error(START + "curve ((((1^(1)))));", Edges.SYNTAX);
        error(START + "^99999;", Edges.SYNTAX);
        error("strip 40 1;" + Edges.bad(10) + "^bads 1 dead;", Edges.SYNTAX);
        error("strip 40 1;" + Edges.bad(10) + "^ba 1 dead;", Edges.SYNTAX);
        String feeds = "strip 40 1;feed 1 1;feed 2 1;feed 3 1;feed 4 1;feed 5 1;";
        error(feeds + "feed ^x 1;", Edges.SYNTAX);
        error(feeds + "feed ^40 1;", Edges.RANGE);
        error(feeds + "feed ^3 1;", Edges.REPEATED);
        error(feeds + "feed 0 1;feed ^0 1;", Edges.REPEATED);
    }

    @Sentence(promise = 3, value = "SYNTAX_ERROR: a token or byte that the grammar does not allow here, at its "
            + "first byte;")
    private static void syntaxErrorAtTheFirstByte() {
        error("   ^nothing;", Edges.SYNTAX);
        error(START + "   ^nothing;", Edges.SYNTAX);
        error(START + "level   ^level;", Edges.SYNTAX);
        error(START + "level 9   ^123;", Edges.SYNTAX);
        error(START + "level 9   ^#;", Edges.SYNTAX);
        error(START + "curve 9   ^(1);", Edges.SYNTAX);
        error(START + "bad 1   ^stuttering 2;", Edges.SYNTAX);
        error("strip 5 5^,", Edges.SYNTAX);
    }

    @Sentence(promise = 3, value = "the end of the text, at its length, if the text ends too early;")
    private static void textEndsTooEarly() {
        for (int length = 0; length <= WHOLE.length(); length++) {
            String text = WHOLE.substring(0, length);
            if (text.endsWith(";")) {
                good(text);
                good(text + "  ");
            } else if (length > 0 && isLetter(WHOLE.charAt(length - 1)) && isLetter(WHOLE.charAt(length))) {
                int start = length;
                while (start > 0 && isLetter(WHOLE.charAt(start - 1))) {
                    start--;
                }
                error(WHOLE.substring(0, start) + "^" + WHOLE.substring(start, length), Edges.SYNTAX);
            } else {
                error(text + "^", Edges.SYNTAX);
                error(text + "   ^", Edges.SYNTAX);
            }
        }
    }

    private static boolean isLetter(char letter) {
        return letter >= 'a' && letter <= 'z';
    }

    @Sentence(promise = 3, value = "a second level or curve in a setup text, at its first letter.")
    private static void secondLevelOrCurve() {
        error(START + "level 9;   ^level 999;", Edges.SYNTAX);
        error(START + "level 9;^level", Edges.SYNTAX);
        error(START + "level 9;curve x;   ^level;", Edges.SYNTAX);
        error(START + "curve x;   ^curve 99999;", Edges.SYNTAX);
        error(START + "curve x;level 9;^curve (((((1", Edges.SYNTAX);
    }

    @Sentence(promise = 3, value = "OUT_OF_RANGE: a number outside its range, at its first digit; in a setup text a "
            + "pixel that there is not.")
    private static void numbersOutOfRange() {
        Edges.setupNumber("strip ", 1, 40, " 1;");
        Edges.setupNumber("strip 1 ", 1, 100, ";");
        for (int pixels : new int[] {1, 7, 40}) {
            String start = "strip " + pixels + " 1;";
            int last = pixels - 1;
            Edges.setupNumber(start + "feed ", 0, last, " 1;");
            Edges.setupNumber(start + "bad ", 0, last, " dead;");
            Edges.setupNumber(start + "fill ", 0, last, " " + last + " 0 0 0;");
            Edges.setupNumber(start + "fill 0 ", 0, last, " 0 0 0;");
            Edges.setupNumber(start + "fill " + last + " ", last, last, " 0 0 0;");
        }
        Edges.setupNumber(START + "feed 4 ", 0, 9999, ";");
        Edges.setupNumber(START + "feed 0 ", 0, 9999, ";");
        Edges.setupNumber(START + "bad 4 stutter ", 2, 9, ";");
        Edges.setupNumber(START + "fill 0 4 ", 0, 255, " 0 0;");
        Edges.setupNumber(START + "fill 0 4 0 ", 0, 255, " 0;");
        Edges.setupNumber(START + "fill 0 4 0 0 ", 0, 255, ";");
        Edges.setupNumber(START + "level ", 0, 255, ";");
    }

    @Sentence(promise = 3, value = "REPEATED: the pixel of a feed or of bad that was told already with the same "
            + "word, at its first digit.")
    private static void pixelsToldTwice() {
        error(START + "feed 0 1;feed ^0 1;", Edges.REPEATED);
        error(START + "feed 4 1;feed 0 1;feed   ^004 1;", Edges.REPEATED);
        error(START + "bad 0 dead;bad ^0 dead;", Edges.REPEATED);
        error(START + "bad 4 dead;bad 0 dead;bad   ^004 stutter 2;", Edges.REPEATED);
        error(START + "bad 4 stutter 2;bad ^4 burnt;", Edges.REPEATED);
        error("strip 40 1;" + Edges.bad(9) + "bad ^8 dead;", Edges.REPEATED);
        good(START + "feed 4 1;bad 4 dead;feed 0 1;bad 0 dead;fill 4 4 1 1 1;fill 4 4 1 1 1;");
        LampStrip x = new LampStrip();
        Checks.load(x, START + "feed 4 1;bad 4 dead;feed 0 1;bad 0 dead;what");
        due("a text with an error told nothing", Checks.load(x, START + "feed 4 1;bad 4 dead;feed 0 1;bad 0 dead;"), 5);
        due("nor did the text ahead", Checks.load(x, START + "feed 4 1;bad 4 dead;feed 0 1;bad 0 dead;"), 5);
    }

    @Sentence(promise = 3, value = "TOO_MANY: an 11th bad, or a feed for a 6th pixel other than 0, at the first "
            + "letter of its statement (a feed: at the first digit of its pixel);")
    private static void tooManyBadAndFeeds() {
        String start = "strip 40 1;";
        Edges.goodSetup(start + Edges.bad(10), 40);
        due("ten bad ones", Checks.made(start + Edges.bad(10)).state(9), 10);
        error(start + Edges.bad(10) + "   ^bad 10 dead;", Edges.MANY);
        error(start + Edges.bad(10) + "^bad", Edges.MANY);
        error(start + Edges.bad(10) + "level 9;^bad 0 dead;", Edges.MANY);
        String feeds = "feed 39 1;feed 1 1;feed 38 1;feed 2 1;feed 3 1;";
        Edges.goodSetup(start + feeds, 40);
        Edges.goodSetup(start + feeds + "feed 0 1;", 40);
        Edges.goodSetup(start + "feed 0 1;" + feeds, 40);
        error(start + feeds + "feed   ^0004 1;", Edges.MANY);
        error(start + feeds + "feed 0 1;feed ^4 1;", Edges.MANY);
        error(start + "feed 0 1;" + feeds + "feed ^4", Edges.MANY);
        LampStrip x = new LampStrip();
        Checks.load(x, start + feeds + Edges.bad(10) + "what");
        due("a text with an error does not count", Checks.load(x, start + feeds + Edges.bad(10)), 40);
        due("nor does the text ahead", Checks.load(x, start + feeds + Edges.bad(10)), 40);
    }

    @Sentence(promise = 3, value = "TOO_DEEP: an opening parenthesis of a sum inside 4 others, at that parenthesis;")
    private static void tooDeepSums() {
        error(START + "curve ((((   ^(1)))));", Edges.DEEP);
        error(START + "curve ((((x*level/^(", Edges.DEEP);
        error(START + "curve (1)+(((1+(2)+(3-^(4)))));", Edges.DEEP);
        good(START + "curve (((1+(2)+(3-4))));");
    }

    @Sentence(promise = 3, value = "Reads the first bytes of the input buffer as a setup text and replaces all data "
            + "by it; the slots stay.")
    private static void readsTheFirstBytes() {
        LampStrip x = new LampStrip();
        String text = "strip 12 100;level 9;feed 1 1;                  ";
        int[] lengths = {3, 7, 8, 10, 12, 13, 17, 20, 21, 27, 30};
        int[] answers = {-2, -2, -2, -2, -2, 12, -2, -2, 12, -2, 12};
        int[] offsets = {0, 7, 8, 10, 12, -1, 13, 20, -1, 27, -1};
        for (int i = 0; i < lengths.length; i++) {
            Checks.put(x, text);
            due("the first " + lengths[i], x.load(lengths[i]), answers[i]);
            due("offset in " + lengths[i], x.errorOffset(), offsets[i]);
        }
        Checks.put(x, "strip 40 100 0;");
        due("a digit behind a space is not read", x.load(12), Edges.SYNTAX);
        Checks.put(x, "strip 40 1000;");
        due("a digit behind them is not read", x.load(12), Edges.SYNTAX);
        due("its offset", x.errorOffset(), 12);
        Checks.put(x, "strip 40 100;levels 0;");
        due("a letter behind them is not read", x.load(18), Edges.SYNTAX);
        due("the offset of the end", x.errorOffset(), 18);
        Checks.put(x, "strip 3 2;!");
        due("an error behind them is not read", x.load(10), 3);
    }

    @Sentence(promise = 3, value = "replaces all data by it; the slots stay.")
    private static void replacesAllData() {
        LampStrip x = Edges.richWithText();
        x.keep(1);
        x.run(20);
        String[] texts = {"strip 12 60;", "strip 40 1;", "strip 1 100;"};
        for (String text : texts) {
            LampStrip fresh = Checks.made(text);
            Edges.dataOf(x);
            Checks.load(x, text);
            Checks.dueTrue("all data: " + text, Edges.dataOf(x).equals(Edges.dataOf(fresh)));
            x.fill(0, 0, 90, 80, 70);
            fresh.fill(0, 0, 90, 80, 70);
            x.show(3);
            fresh.show(3);
            Checks.dueTrue("and there is no curve: " + text, Edges.dataOf(x).equals(Edges.dataOf(fresh)));
        }
        LampStrip y = Edges.rich();
        String kept = Edges.dataOf(y);
        y.keep(1);
        y.restore(0);
        String first = Edges.dataOf(y);
        Checks.load(y, "strip 1 1;");
        y.restore(0);
        Checks.dueTrue("slot 0 stays", Edges.dataOf(y).equals(first));
        y.restore(1);
        Checks.dueTrue("slot 1 stays", Edges.dataOf(y).equals(kept));
        Edges.refused("an empty slot stays empty", Edges.ELEMENT, () -> Checks.made("strip 2 2;"), z -> z.restore(1));
    }

    @Sentence(promise = 3, value = "The input buffer is empty afterwards, also if the text has an error.")
    private static void bufferIsEmptyBehindLoad() {
        String text = Edges.times(29, "                    ");
        for (int length : new int[] {0, 1, 9, 10, 600}) {
            LampStrip x = new LampStrip();
            Checks.put(x, "strip 5 5;          " + text);
            due("load of " + length, x.load(length), length < 10 ? Edges.SYNTAX : 5);
            due("append behind it", x.append(Edges.SPACES, Edges.SPACES, Edges.SPACES, Edges.SPACES, Edges.SPACES), 20);
            due("nothing of the old text is left", x.run(20), 0);
        }
        Edges.refused("the buffer is empty", Edges.ARGUMENT, () -> Checks.made(START), x -> x.load(1));
    }

    @Sentence(promise = 3, value = "An error leaves all other data unchanged.")
    private static void errorLeavesTheData() {
        error("strip 1 1;level 3;curve x;^what", Edges.SYNTAX);
        error("strip 40 100;feed 1 1;bad 1 dead;fill 0 0 1 1 1;level ^256;", Edges.RANGE);
        error("strip 40 100;bad 1 dead;bad ^1 dead;", Edges.REPEATED);
        error("strip 40 100;" + Edges.bad(10) + "^bad", Edges.MANY);
        error("strip 40 100;curve ((((^(", Edges.DEEP);
        LampStrip fresh = new LampStrip();
        Checks.load(fresh, "strip 9 9;level 3;");
        fresh.undo();
        Checks.load(fresh, "strip 7 7;what");
        due("a new object stays one", fresh.state(0), 1);
        due("no change is told", fresh.undo(), -1);
    }

    @Sentence(promise = 3, value = "An empty text has a SYNTAX_ERROR.")
    private static void emptyTextOfLoad() {
        error("^", Edges.SYNTAX);
        error(" ^", Edges.SYNTAX);
        LampStrip x = new LampStrip();
        due("of an empty buffer", x.load(0), Edges.SYNTAX);
        due("its offset", x.errorOffset(), 0);
        Checks.put(x, "strip 5 5;");
        due("of a buffer with a text", x.load(0), Edges.SYNTAX);
        due("the offset again", x.errorOffset(), 0);
        due("no pixels more", x.state(0), 1);
    }

    @Sentence(promise = 3, value = "Returns the number of pixels; or the error code of the first error.")
    private static void loadReturns() {
        for (int pixels = 1; pixels <= 40; pixels++) {
            Edges.goodSetup("strip " + pixels + " 1;", pixels);
        }
        LampStrip x = new LampStrip();
        due("SYNTAX_ERROR", Checks.load(x, "x"), LampStrip.SYNTAX_ERROR);
        due("OUT_OF_RANGE", Checks.load(x, "strip 0"), LampStrip.OUT_OF_RANGE);
        due("REPEATED", Checks.load(x, "strip 1 1;bad 0 dead;bad 0"), LampStrip.REPEATED);
        due("TOO_MANY", Checks.load(x, "strip 40 1;" + Edges.bad(10) + "bad"), LampStrip.TOO_MANY);
        due("TOO_DEEP", Checks.load(x, "strip 1 1;curve((((("), LampStrip.TOO_DEEP);
    }

    @Sentence(promise = 3, value = "Throws `IllegalArgumentException` if length is negative or greater than the "
            + "length of the buffer; the buffer is unchanged then")
    private static void lengthsOfLoad() {
        for (int length : new int[] {-1, 21, 600, 601, Integer.MIN_VALUE, Integer.MAX_VALUE}) {
            Edges.refused("load(" + length + ") of 20", Edges.ARGUMENT, Edges::richWithText, x -> x.load(length));
        }
        for (int length : new int[] {-1, 1, Integer.MIN_VALUE, Integer.MAX_VALUE}) {
            Edges.refused("load(" + length + ") of 0", Edges.ARGUMENT, Edges::rich, x -> x.load(length));
            Edges.refused("load(" + length + ") of a new one", Edges.ARGUMENT, LampStrip::new, x -> x.load(length));
        }
        Edges.refused("load(601) of 600", Edges.ARGUMENT, EdgeSetupTest::full, x -> x.load(601));
        due("load(600) of 600", full().load(600), 5);
        due("load(10) of 600", full().load(10), 5);
        LampStrip x = Edges.rich();
        Checks.put(x, START);
        Checks.dueThrow("load(21)", x, Edges.ARGUMENT, () -> x.load(21));
        due("the text is still there", x.load(20), 5);
    }

    private static LampStrip full() {
        LampStrip x = new LampStrip();
        Checks.put(x, START + Edges.times(590, " "));
        return x;
    }
}
