import java.lang.reflect.InvocationTargetException;
import java.lang.reflect.Method;
import java.util.Arrays;
import java.util.Comparator;
import java.util.NoSuchElementException;

/** What the edge tests share: tests that stand for one sentence each, and objects compared by all that they answer. */
final class Edges {
    static final int SYNTAX = LampStrip.SYNTAX_ERROR;
    static final int RANGE = LampStrip.OUT_OF_RANGE;
    static final int REPEATED = LampStrip.REPEATED;
    static final int MANY = LampStrip.TOO_MANY;
    static final int DEEP = LampStrip.TOO_DEEP;
    static final Class<?> ARGUMENT = IllegalArgumentException.class;
    static final Class<?> INDEX = IndexOutOfBoundsException.class;
    static final Class<?> STATE = IllegalStateException.class;
    static final Class<?> ELEMENT = NoSuchElementException.class;
    static final int SPACES = 0x20202020;

    /** Makes the same object each time. */
    interface Maker {
        LampStrip make();
    }

    interface Use {
        void make(LampStrip strip);
    }

    private Edges() {
    }

    /** Runs all tests of the class; each of its methods without a parameter has to stand for a sentence. */
    static void runAll(Class<?> tests) {
        Method[] methods = tests.getDeclaredMethods();
        Arrays.sort(methods, Comparator.comparing(Method::getName));
        for (Method method : methods) {
            Sentence sentence = method.getAnnotation(Sentence.class);
            if (sentence != null) {
                Checks.begin("promise " + sentence.promise() + ", " + method.getName() + ": ");
                runOne(method);
            } else {
                boolean isTest = method.getParameterCount() == 0 && method.getReturnType() == void.class;
                Checks.dueTrue(method + " stands for a sentence", !isTest || method.isSynthetic());
            }
        }
        Checks.end();
    }

    private static void runOne(Method method) {
        try {
            method.setAccessible(true);
            method.invoke(null);
        } catch (InvocationTargetException thrown) {
            Checks.fail("it ended with " + thrown.getCause());
        } catch (IllegalAccessException e) {
            Checks.fail("it can't be called");
        }
    }

    /** The call throws exactly this class, and the object then answers all as one without that call does. */
    static boolean refused(String what, Class<?> want, Maker maker, Use call) {
        LampStrip asked = maker.make();
        Class<?> got = null;
        try {
            call.make(asked);
        } catch (RuntimeException thrown) {
            got = thrown.getClass();
        }
        Checks.dueTrue(what + " threw " + got + ", due is " + want, got == want);
        same(what, asked, maker.make());
        return got == want;
    }

    /** The call throws nothing, and the object then answers all as one without that call does. */
    static void harmless(String what, Maker maker, Use call) {
        LampStrip asked = maker.make();
        call.make(asked);
        same(what, asked, maker.make());
    }

    /** Both answer the same, whatever is asked; they are used up by it. */
    static void same(String what, LampStrip got, LampStrip want) {
        Checks.due(what + ", errorOffset behind it", got.errorOffset(), want.errorOffset());
        sameButForTheError(what, got, want);
    }

    private static void sameButForTheError(String what, LampStrip got, LampStrip want) {
        Checks.due(what + ", ending behind it", got.ending(), want.ending());
        Checks.dueTrue(what + ", the data behind it", dataOf(got).equals(dataOf(want)));
        Checks.dueTrue(what + ", the changes behind it", changesOf(got).equals(changesOf(want)));
        Checks.dueTrue(what + ", the buffer behind it", bufferOf(got).equals(bufferOf(want)));
        Checks.dueTrue(what + ", the slots behind it", slotsOf(got).equals(slotsOf(want)));
    }

    /** All that the object tells of its data, which stay as they are. */
    static String dataOf(LampStrip x) {
        StringBuilder all = new StringBuilder();
        for (int what = 0; what <= 9; what++) {
            all.append(x.state(what)).append(' ');
        }
        for (int pixel = 0; pixel < x.state(0); pixel++) {
            for (int what = 0; what <= 8; what++) {
                all.append(x.pixel(pixel, what)).append(' ');
            }
            all.append(x.why(pixel)).append(' ').append(x.origin(pixel)).append(' ');
        }
        for (int feed = 0; feed < x.state(3); feed++) {
            for (int what = 0; what <= 3; what++) {
                all.append(x.feed(feed, what)).append(' ');
            }
        }
        for (int times = 1; times <= 20; times++) {
            all.append(x.wrongIn(times)).append(' ');
        }
        for (int many = 0; many <= 10; many++) {
            all.append(x.plan(many)).append(' ');
        }
        all.append(x.greatestLevel()).append(' ').append(x.usage()).append(' ').append(x.checksum());
        return all.toString();
    }

    /** Undoes all that can be undone, and tells of what was there each time. */
    private static String changesOf(LampStrip x) {
        StringBuilder all = new StringBuilder();
        int left = x.undo();
        for (int n = 0; n < 20 && left >= 0; n++) {
            all.append(left).append(": ").append(dataOf(x)).append('\n');
            left = x.undo();
        }
        return all.append(left).toString();
    }

    /** Runs the whole buffer as a script. */
    private static String bufferOf(LampStrip x) {
        int length = x.append(SPACES, SPACES, SPACES, SPACES, SPACES);
        int answer = x.run(length < 0 ? 600 : length);
        return length + ": " + answer + " " + x.errorOffset() + " " + x.ending() + " " + dataOf(x);
    }

    private static String slotsOf(LampStrip x) {
        StringBuilder all = new StringBuilder();
        for (int slot = 0; slot < 2; slot++) {
            try {
                all.append(x.restore(slot)).append(": ").append(dataOf(x));
                all.append(x.show(1)).append(": ").append(dataOf(x)).append('\n');
            } catch (NoSuchElementException e) {
                all.append("empty\n");
            }
        }
        return all.toString();
    }

    /** An object with something in all that it has: 8 changes to undo, slot 0, a curve, an error; slot 1 is empty. */
    static LampStrip rich() {
        LampStrip x = Checks.made("strip 12 60;feed 9 40;feed 4 100;feed 0 300;bad 2 stutter 3;bad 5 dead;bad 7 burnt;"
                + "fill 0 11 200 100 50;fill 3 6 10 250 90;level 200;curve x*level/255+(x-20)/3;");
        x.keep(0);
        Checks.due("a rich object: run", Checks.run(x, "show;bypass 7;shift 3;level 300;"), 3);
        Checks.due("a rich object: load", Checks.load(x, "strip 1 1;what"), SYNTAX);
        x.show(2);
        x.fill(0, 3, 9, 200, 77);
        x.bypass(5, true);
        x.damage(1, 3, 4);
        x.show(1);
        // Not shown any more, so that the due colors are other ones than those of the frame of now.
        x.shift(2);
        x.level(90);
        x.limit(1, 70);
        return x;
    }

    /** The same one with a script of 20 bytes in its buffer. */
    static LampStrip richWithText() {
        LampStrip x = rich();
        Checks.put(x, "level 77;show;shift 4;show;".substring(0, 14));
        return x;
    }

    /** The pixels 0 to 9 of 12 are bad, the first 3 of them bypassed. */
    static LampStrip tenBad() {
        LampStrip x = Checks.made("strip 12 9;" + bad(10) + "fill 0 11 7 8 9;");
        for (int pixel = 0; pixel < 3; pixel++) {
            x.bypass(pixel, true);
        }
        x.show(1);
        return x;
    }

    static String bad(int many) {
        String[] kinds = {" dead;", " burnt;", " stutter 2;"};
        StringBuilder text = new StringBuilder();
        for (int pixel = 0; pixel < many; pixel++) {
            text.append("bad ").append(pixel).append(kinds[pixel % 3]);
        }
        return text.toString();
    }

    /** Statements that give each pixel a color of its own: its index and 1. */
    static String ownColors(int pixels) {
        StringBuilder text = new StringBuilder();
        for (int pixel = 0; pixel < pixels; pixel++) {
            text.append("fill ").append(pixel).append(' ').append(pixel).append(" 0 0 ").append(pixel + 1).append(';');
        }
        return text.toString();
    }

    static String times(int many, String text) {
        StringBuilder all = new StringBuilder();
        for (int n = 0; n < many; n++) {
            all.append(text);
        }
        return all.toString();
    }

    /** An error stands in the setup text where "^" does, and all but the error offset stays as it was. */
    static void setupError(String marked, int code) {
        LampStrip x = rich();
        String text = without(marked);
        Checks.due("load of " + text, Checks.load(x, text), code);
        Checks.due("offset in " + text, x.errorOffset(), marked.indexOf('^'));
        sameButForTheError(text, x, rich());
    }

    static void scriptError(String marked, int code) {
        LampStrip x = rich();
        String text = without(marked);
        Checks.due("run of " + text, Checks.run(x, text), code);
        Checks.due("offset in " + text, x.errorOffset(), marked.indexOf('^'));
        sameButForTheError(text, x, rich());
    }

    private static String without(String marked) {
        int at = marked.indexOf('^');
        return marked.substring(0, at) + marked.substring(at + 1);
    }

    static void goodSetup(String text, int pixels) {
        LampStrip x = new LampStrip();
        Checks.due("load of " + text, Checks.load(x, text), pixels);
        Checks.due("offset of " + text, x.errorOffset(), -1);
    }

    static void goodScript(String text, int commands) {
        LampStrip x = Checks.made("strip 5 5;");
        Checks.due("run of " + text, Checks.run(x, text), commands);
        Checks.due("offset of " + text, x.errorOffset(), -1);
    }

    /** In a setup text the number may be least and most, and neither one less nor one more. */
    static void setupNumber(String ahead, int least, int most, String behind) {
        for (String zeros : new String[] {"", "000"}) {
            for (int number : new int[] {least, most}) {
                String text = ahead + zeros + number + behind;
                Checks.dueTrue("it is good: " + text, Checks.load(new LampStrip(), text) > 0);
            }
            if (least > 0) {
                setupError(ahead + "^" + zeros + (least - 1) + behind, RANGE);
            }
            setupError(ahead + "^" + zeros + (most + 1) + behind, RANGE);
        }
    }

    static void scriptNumber(String ahead, int least, int most, String behind) {
        for (String zeros : new String[] {"", "000"}) {
            for (int number : new int[] {least, most}) {
                String text = ahead + zeros + number + behind;
                Checks.dueTrue("it is good: " + text, Checks.run(rich(), text) >= 0);
            }
            if (least > 0) {
                scriptError(ahead + "^" + zeros + (least - 1) + behind, RANGE);
            }
            scriptError(ahead + "^" + zeros + (most + 1) + behind, RANGE);
        }
    }
}
