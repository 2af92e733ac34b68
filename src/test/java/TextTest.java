/** The first error of setup texts and scripts: its code and its offset. */
public final class TextTest {
    private static final int SYNTAX = LampStrip.SYNTAX_ERROR;
    private static final int RANGE = LampStrip.OUT_OF_RANGE;
    private static final int REPEATED = LampStrip.REPEATED;
    private static final int MANY = LampStrip.TOO_MANY;
    private static final int DEEP = LampStrip.TOO_DEEP;

    private TextTest() {
    }

    public static void main(String[] args) {
        constants();
        setupStarts();
        setupStatements();
        setupNumbers();
        setupRepeats();
        setupCurves();
        scriptErrors();
        scriptLimits();
        Checks.end();
    }

    /** An error stands where "^" stands in the text (which is taken out of it). */
    private static void setup(String marked, int code) {
        String text = without(marked);
        LampStrip x = Checks.made("strip 5 5;fill 0 1 2 3 4;");
        long before = x.checksum();
        Checks.due("load of " + text, Checks.load(x, text), code);
        Checks.due("offset in " + text, x.errorOffset(), marked.indexOf('^'));
        Checks.due("data behind " + text, x.checksum(), before);
        Checks.due("changes behind " + text, x.undo(), 0);
    }

    private static void script(String marked, int code) {
        String text = without(marked);
        LampStrip x = Checks.made("strip 5 5;fill 0 1 2 3 4;");
        long before = x.checksum();
        Checks.due("run of " + text, Checks.run(x, text), code);
        Checks.due("offset in " + text, x.errorOffset(), marked.indexOf('^'));
        Checks.due("data behind " + text, x.checksum(), before);
        Checks.due("changes behind " + text, x.undo(), 0);
    }

    private static String without(String marked) {
        int at = marked.indexOf('^');
        return marked.substring(0, at) + marked.substring(at + 1);
    }

    private static void good(String text, int answer) {
        LampStrip x = new LampStrip();
        Checks.due("load of " + text, Checks.load(x, text), answer);
        Checks.due("offset of " + text, x.errorOffset(), -1);
    }

    private static void constants() {
        Checks.due("SYNTAX_ERROR", SYNTAX, -2);
        Checks.due("OUT_OF_RANGE", RANGE, -3);
        Checks.due("REPEATED", REPEATED, -4);
        Checks.due("TOO_MANY", MANY, -5);
        Checks.due("TOO_DEEP", DEEP, -6);
    }

    private static void setupStarts() {
        setup("^", SYNTAX);
        setup("   ^", SYNTAX);
        setup("^stripe 1 1;", SYNTAX);
        setup("^strips1 1;", SYNTAX);
        setup("^Strip 1 1;", SYNTAX);
        setup("^1 1;", SYNTAX);
        setup("^;", SYNTAX);
        setup("^feed 0 1;", SYNTAX);
        setup("strip^", SYNTAX);
        setup("strip  ^", SYNTAX);
        setup("strip ^;", SYNTAX);
        setup("strip ^x 1;", SYNTAX);
        setup("strip 1^", SYNTAX);
        setup("strip 1^;", SYNTAX);
        setup("strip 1^,1;", SYNTAX);
        setup("strip 1 1^", SYNTAX);
        setup("strip 1 1 ^1;", SYNTAX);
        setup("strip 1 1^\t;", SYNTAX);
        setup("strip 1 1;^;", SYNTAX);
        setup("strip 1 1; ^\n", SYNTAX);
        setup("strip 1 1;^\u00e4", SYNTAX);
        setup("strip 1 1;^\u0000", SYNTAX);
        setup("strip ^-1 1;", SYNTAX);
        good("strip1 1;", 1);
        good("strip 1 1;     ", 1);
    }

    private static void setupStatements() {
        String start = "strip 5 5;";
        setup(start + "^strip 1 1;", SYNTAX);
        setup(start + "^show;", SYNTAX);
        setup(start + "^feeds 1 1;", SYNTAX);
        setup(start + "feed^;", SYNTAX);
        setup(start + "feed 1^;", SYNTAX);
        setup(start + "feed 1 1^", SYNTAX);
        setup(start + "feed 1 1 ^1;", SYNTAX);
        setup(start + "feed 1 1 ^feed 2 1;", SYNTAX);
        setup(start + "bad ^dead;", SYNTAX);
        setup(start + "bad 1^;", SYNTAX);
        setup(start + "bad 1 ^good;", SYNTAX);
        setup(start + "bad 1 ^deads;", SYNTAX);
        setup(start + "bad 1 ^deadx 1;", SYNTAX);
        setup(start + "bad 1 dead ^1;", SYNTAX);
        setup(start + "bad 1 stutter^;", SYNTAX);
        setup(start + "bad 1 stutter^", SYNTAX);
        setup(start + "bad 1 burnt ^2;", SYNTAX);
        setup(start + "fill 1 2 3 4^;", SYNTAX);
        setup(start + "fill 1 2 3 4 5 ^6;", SYNTAX);
        setup(start + "level^;", SYNTAX);
        setup(start + "level ^x;", SYNTAX);
        setup(start + "level 1;^level 2;", SYNTAX);
        setup(start + "level 1; curve x; ^level 256;", SYNTAX);
        setup(start + "curve 1;level 3;^curve;", SYNTAX);
        setup(start + "feed 0 1;bad 2 dead ; fill 0 1 2 3 4; level 3 ;curve 3 ^", SYNTAX);
    }

    private static void setupNumbers() {
        String start = "strip 5 5;";
        setup("strip ^0 1;", RANGE);
        setup("strip ^41 1;", RANGE);
        setup("strip 1 ^0;", RANGE);
        setup("strip 1 ^101;", RANGE);
        setup("strip ^41 0 what", RANGE);
        setup("strip ^4294967297 1;", RANGE);
        setup("strip ^18446744073709551617 1;", RANGE);
        setup("strip 1 ^00000000000000000000000101", RANGE);
        setup(start + "feed ^5 1;", RANGE);
        setup(start + "feed 4 ^10000;", RANGE);
        setup(start + "bad ^5 dead;", RANGE);
        setup(start + "bad 4 stutter ^1;", RANGE);
        setup(start + "bad 4 stutter ^10;", RANGE);
        setup(start + "bad 4 stutter ^0;", RANGE);
        setup(start + "fill ^5 5 0 0 0;", RANGE);
        setup(start + "fill 4 ^5 0 0 0;", RANGE);
        setup(start + "fill 4 ^3 0 0 0;", RANGE);
        setup(start + "fill 0 0 ^256 0 0;", RANGE);
        setup(start + "fill 0 0 0 ^256 0;", RANGE);
        setup(start + "fill 0 0 0 0 ^256;", RANGE);
        setup(start + "level ^256;", RANGE);
        setup(start + "curve ^10000;", RANGE);
        setup(start + "curve x+^99999999999999999999;", RANGE);
        good("strip 40 100;feed 39 9999;bad 39 stutter 9;bad 0 stutter 2;fill 39 39 255 255 255;level 255;curve 9999;", 40);
        good("strip 1 1;feed 0 0;fill 0 0 0 0 0;level 0;curve 0;", 1);
        good("strip 5 00000000000000000005;level 00000000000255;", 5);
    }

    private static void setupRepeats() {
        String start = "strip 40 5;";
        setup(start + "feed 3 1;feed ^03 1;", REPEATED);
        setup(start + "feed 0 1;feed ^0 what", REPEATED);
        setup(start + "bad 3 dead;feed 3 1;bad ^3 burnt;", REPEATED);
        setup(start + "bad 3 dead;bad ^3;", REPEATED);
        good(start + "feed 3 1;bad 3 dead;", 40);
        String feeds = "feed 1 1;feed 2 1;feed 3 1;feed 4 1;feed 5 1;";
        good(start + feeds, 40);
        good(start + feeds + "feed 0 1;", 40);
        setup(start + feeds + "feed ^6 1;", MANY);
        setup(start + "feed 0 1;" + feeds + "feed ^6 1;", MANY);
        setup(start + feeds + "feed ^5 1;", REPEATED);
        setup(start + feeds + "feed ^40 1;", RANGE);
        setup(start + feeds + "feed ^x 1;", SYNTAX);
        setup(start + feeds + "feed 0 1;feed ^0 1;", REPEATED);
        StringBuilder bad = new StringBuilder(start);
        for (int pixel = 0; pixel < 10; pixel++) {
            bad.append("bad ").append(pixel).append(" burnt;");
        }
        good(bad.toString(), 40);
        setup(bad + "^bad 10 burnt;", MANY);
        setup(bad + " ^bad 1 burnt;", MANY);
        setup(bad + "^bad", MANY);
        setup(bad + "^bads", SYNTAX);
    }

    private static void setupCurves() {
        String start = "strip 5 5;curve ";
        setup(start + "^;", SYNTAX);
        setup(start + "^", SYNTAX);
        setup(start + "^y;", SYNTAX);
        setup(start + "^xx;", SYNTAX);
        setup(start + "^levelx;", SYNTAX);
        setup(start + "^-1;", SYNTAX);
        setup(start + "1+^;", SYNTAX);
        setup(start + "1+^+1;", SYNTAX);
        setup(start + "1*^/1;", SYNTAX);
        setup(start + "3^x;", SYNTAX);
        setup(start + "3 ^4;", SYNTAX);
        setup(start + "x^(1);", SYNTAX);
        setup(start + "(1^;", SYNTAX);
        setup(start + "(1 ^", SYNTAX);
        setup(start + "(^);", SYNTAX);
        setup(start + "(1)^);", SYNTAX);
        setup(start + "1 ^% 2;", SYNTAX);
        setup(start + "((((^(1)))));", DEEP);
        setup(start + "((((1+x*^((", DEEP);
        setup(start + "((((1))))+(((( ^(1)))));", DEEP);
        setup(start + "((((^10000))))", RANGE);
        good(start + "((((1))))+((((x))))*(level);", 5);
        good(start + "((((1)+(2))*(3)));level 5;", 5);
    }

    private static void scriptErrors() {
        script("^;", SYNTAX);
        script("^)", SYNTAX);
        script("show;^)", SYNTAX);
        script("^shows;", SYNTAX);
        script("^showz;", SYNTAX);
        script("^showa;", SYNTAX);
        script("show^{", SYNTAX);
        script("show^`", SYNTAX);
        script("level 1^:", SYNTAX);
        script("level 1^/", SYNTAX);
        script("^strip 1 1;", SYNTAX);
        script("^curve x;", SYNTAX);
        script("show^", SYNTAX);
        script("show ^1;", SYNTAX);
        script("show;^;", SYNTAX);
        script("shift^;", SYNTAX);
        script("shift 1 ^1;", SYNTAX);
        script("shift ^10000;", RANGE);
        script("level ^10000;", RANGE);
        script("bypass ^10000;", RANGE);
        script("bypass^;", SYNTAX);
        script("fill ^10000 0 0 0 0;", RANGE);
        script("fill 0 ^10000 0 0 0;", RANGE);
        script("fill 0 0 ^10000 0 0;", RANGE);
        script("fill 0 0 0 ^10000 0;", RANGE);
        script("fill 0 0 0 0 ^10000;", RANGE);
        script("fill 0 0 0 0^;", SYNTAX);
        script("repeat ^0(show;);", RANGE);
        script("repeat ^21(show;);", RANGE);
        script("repeat 2^;", SYNTAX);
        script("repeat 2 ^show;", SYNTAX);
        script("repeat ^(show;);", SYNTAX);
        script("repeat 2(show^);", SYNTAX);
        script("repeat 2(show;^", SYNTAX);
        script("repeat 2(show; ^", SYNTAX);
        script("repeat 2(show;)^", SYNTAX);
        script("repeat 2(show;) ^show;", SYNTAX);
        script("repeat 2(^;);", SYNTAX);
        script("show;show;level ^99999;what", RANGE);
        script("show;^SHOW;", SYNTAX);
    }

    private static void scriptLimits() {
        script("repeat 1(repeat 1(repeat 1(^repeat 1();););", DEEP);
        script("repeat 1(repeat 1(repeat 1(show; ^repeat", DEEP);
        script("repeat 1(repeat 1(repeat 1();repeat 1(^repeat 99();););", DEEP);
        StringBuilder shows = new StringBuilder();
        for (int n = 0; n < 56; n++) {
            shows.append("show;");
        }
        script(shows + "show;show;show;show;^show;", MANY);
        script(shows + "show;show;show;show;^level 10000;", MANY);
        script(shows + "show;show;show;show;^shows;", SYNTAX);
        script(shows + "show;show;show;show;^)", SYNTAX);
        script(shows + "repeat 1(repeat 1(repeat 1(show;^repeat 1();););", MANY);
        script(shows + "repeat 1(repeat 1(repeat 1(^repeat 1();););", DEEP);
        LampStrip x = Checks.made("strip 5 5;");
        Checks.due("60 with repeats", Checks.run(x, shows + "repeat 1(repeat 1(repeat 1(show;);););"), 57);
    }
}
