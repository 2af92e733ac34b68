/** What the tests share: answers that are compared, exceptions that are due, and texts for the input buffer. */
final class Checks {
    /** A call that is to throw. */
    interface Call {
        void make();
    }

    private static int made = 0;
    private static int failed = 0;
    private static String heading = "";

    private Checks() {
    }

    /** What stands ahead of each failure from now on. */
    static void begin(String newHeading) {
        heading = newHeading;
    }

    static void due(String what, long got, long want) {
        made++;
        if (got != want) {
            fail(what + " answered " + got + ", due is " + want);
        }
    }

    static void dueReal(String what, double got, double want) {
        made++;
        if (got != want) {
            fail(what + " answered " + got + ", due is " + want);
        }
    }

    static void dueTrue(String what, boolean got) {
        made++;
        if (!got) {
            fail(what + " does not hold");
        }
    }

    /** The call throws exactly this class, and leaves the object as it was. */
    static void dueThrow(String what, LampStrip strip, Class<?> want, Call call) {
        made++;
        long before = strip.checksum();
        Class<?> got = null;
        try {
            call.make();
        } catch (RuntimeException thrown) {
            got = thrown.getClass();
        }
        if (got != want) {
            fail(what + " threw " + got + ", due is " + want);
        }
        due(what + ", checksum behind it", strip.checksum(), before);
    }

    static void fail(String what) {
        failed++;
        if (failed <= 50) {
            System.out.println(heading + what);
        }
    }

    /** Puts the text into the input buffer, filled up with spaces to a multiple of 20 bytes. */
    static void put(LampStrip strip, String text) {
        int[] words = new int[5];
        for (int at = 0; at < text.length(); at += 20) {
            for (int word = 0; word < 5; word++) {
                words[word] = 0;
                for (int i = 0; i < 4; i++) {
                    int place = at + 4 * word + i;
                    int letter = place < text.length() ? text.charAt(place) & 255 : ' ';
                    words[word] = words[word] << 8 | letter;
                }
            }
            strip.append(words[0], words[1], words[2], words[3], words[4]);
        }
    }

    static int load(LampStrip strip, String text) {
        put(strip, text);
        return strip.load(text.length());
    }

    static int run(LampStrip strip, String text) {
        put(strip, text);
        return strip.run(text.length());
    }

    /** A new object with this setup. */
    static LampStrip made(String text) {
        LampStrip strip = new LampStrip();
        int answer = load(strip, text);
        dueTrue("the setup " + text + " (" + answer + " at " + strip.errorOffset() + ")", answer > 0);
        return strip;
    }

    static int color(int red, int green, int blue) {
        return 65536 * red + 256 * green + blue;
    }

    /** Ends the program, with 1 if a check failed. */
    static void end() {
        System.out.println(made + " checks, " + failed + " failed");
        if (failed != 0) {
            System.exit(1);
        }
    }
}
