import java.util.Random;

/** Runs of random calls (always the same ones), each answered by the program and by the model. */
public final class ModelTest {
    private static final int RUNS = 400;
    private static final int CALLS = 250;
    private static final int TEXTS = 30000;

    private final Random random;
    private final LampStrip strip = new LampStrip();
    private final Model model = new Model();
    private int pixels = 1;

    private interface Call {
        long answer();
    }

    private ModelTest(int seed) {
        random = new Random(seed);
    }

    public static void main(String[] args) {
        int runs = args.length > 0 ? Integer.parseInt(args[0]) : RUNS;
        for (int seed = 1; seed <= runs; seed++) {
            ModelTest test = new ModelTest(seed);
            for (int call = 1; call <= CALLS; call++) {
                test.makeCall("seed " + seed + ", call " + call + ": ");
            }
        }
        ModelTest texts = null;
        for (int n = 0; n < TEXTS; n++) {
            texts = n % 100 == 0 ? new ModelTest(-n) : texts;
            texts.readText("text " + n + ": ", n % 2 == 0);
        }
        Checks.end();
    }

    private static String answerOf(Call call) {
        try {
            return Long.toString(call.answer());
        } catch (RuntimeException thrown) {
            return thrown.getClass().getName();
        }
    }

    private void compare(String what, Call ofStrip, Call ofModel) {
        String got = answerOf(ofStrip);
        String want = answerOf(ofModel);
        Checks.dueTrue(what + " (" + got + ", due is " + want + ")", got.equals(want));
        Checks.due(what + ": errorOffset", strip.errorOffset(), model.errorOffset());
        Checks.due(what + ": ending", strip.ending(), model.ending());
        Checks.due(what + ": checksum", strip.checksum(), model.checksum());
        pixels = strip.state(0);
    }

    /** Mostly from least to most, sometimes just beyond them. */
    private int number(int least, int most) {
        switch (random.nextInt(30)) {
            case 0:
                return least - 1;
            case 1:
                return most + 1;
            case 2:
                return random.nextInt(5) == 0 ? random.nextInt() : least;
            case 3:
                return most;
            default:
                return least + random.nextInt(most - least + 1);
        }
    }

    private int index() {
        return number(0, pixels - 1);
    }

    private void makeCall(String at) {
        int a = index();
        int b = random.nextInt(8) == 0 ? index() : Math.min(pixels - 1, a + random.nextInt(12));
        int kind = random.nextInt(34);
        switch (kind) {
            case 0: case 1: case 2: case 3:
                readText(at, true);
                break;
            case 4: case 5:
                readText(at, false);
                break;
            case 6: case 7: case 8: case 9: {
                int red = channel();
                int green = channel();
                int blue = channel();
                compare(at + "fill " + a + " " + b, () -> strip.fill(a, b, red, green, blue),
                        () -> model.fill(a, b, red, green, blue));
                break;
            }
            case 10: case 11: case 12: case 13: {
                int times = random.nextInt(3) == 0 ? number(1, 50) : 1 + random.nextInt(3);
                compare(at + "show " + times, () -> strip.show(times), () -> model.show(times));
                break;
            }
            case 14: case 15: {
                boolean isOn = random.nextInt(3) != 0;
                compare(at + "bypass " + a, () -> strip.bypass(a, isOn) ? 1 : 0, () -> model.bypass(a, isOn));
                break;
            }
            case 16: case 17: case 18: {
                int what = number(0, 3);
                int period = what == 3 || random.nextInt(9) == 0 ? number(2, 9) : 0;
                compare(at + "damage " + a + " " + what, () -> strip.damage(a, what, period),
                        () -> model.damage(a, what, period));
                break;
            }
            default:
                makeOtherCall(at, kind, a);
                break;
        }
    }

    private void makeOtherCall(String at, int kind, int a) {
        int slot = number(0, 1);
        int by = number(0, 9999);
        int level = number(0, 255);
        int feed = random.nextInt(4) == 0 ? number(0, 5) : random.nextInt(strip.state(3));
        int limit = random.nextInt(3) == 0 ? number(0, 9999) : random.nextInt(400);
        int times = number(1, 20);
        int many = number(0, 10);
        int what = number(0, 8);
        switch (kind) {
            case 19: case 20:
                compare(at + "shift " + by, () -> strip.shift(by), () -> model.shift(by));
                break;
            case 21: case 22:
                compare(at + "level " + level, () -> strip.level(level), () -> model.level(level));
                break;
            case 23: case 24:
                compare(at + "limit " + feed, () -> strip.limit(feed, limit), () -> model.limit(feed, limit));
                break;
            case 25:
                compare(at + "keep " + slot, () -> strip.keep(slot), () -> model.keep(slot));
                break;
            case 26:
                compare(at + "restore " + slot, () -> strip.restore(slot), () -> model.restore(slot));
                break;
            case 27: case 28:
                compare(at + "undo", strip::undo, model::undo);
                break;
            case 29:
                compare(at + "plan " + many, () -> strip.plan(many), () -> model.plan(many));
                break;
            case 30:
                compare(at + "greatestLevel", strip::greatestLevel, model::greatestLevel);
                Checks.dueReal(at + "usage", strip.usage(), model.usage());
                break;
            case 31:
                compare(at + "wrongIn " + times, () -> strip.wrongIn(times), () -> model.wrongIn(times));
                break;
            case 32:
                compare(at + "pixel", () -> strip.pixel(a, what), () -> model.pixel(a, what));
                compare(at + "feed", () -> strip.feed(feed, what - 2), () -> model.feed(feed, what - 2));
                compare(at + "state", () -> strip.state(what + 1), () -> model.state(what + 1));
                break;
            default:
                for (int i = -1; i <= pixels; i++) {
                    int pixel = i;
                    compare(at + "why " + i, () -> strip.why(pixel), () -> model.why(pixel));
                    compare(at + "origin " + i, () -> strip.origin(pixel), () -> model.origin(pixel));
                }
                break;
        }
    }

    private int channel() {
        return random.nextInt(3) == 0 ? 0 : number(0, 255);
    }

    private void readText(String at, boolean isScript) {
        String text = isScript ? script(0) : setup();
        if (random.nextInt(4) == 0) {
            text = spoilt(text);
        }
        text = text.length() > 600 ? text.substring(0, 600) : text;
        for (int place = 0; place < text.length(); place += 20) {
            int[] words = new int[5];
            for (int i = 0; i < 20; i++) {
                int letter = place + i < text.length() ? text.charAt(place + i) & 255 : random.nextInt(256);
                words[i / 4] = words[i / 4] << 8 | letter;
            }
            compare(at + "append", () -> strip.append(words[0], words[1], words[2], words[3], words[4]),
                    () -> model.append(words));
        }
        int length = random.nextInt(100) == 0 ? text.length() + 21 : text.length();
        if (random.nextInt(40) == 0 ? !isScript : isScript) {
            compare(at + "run " + text, () -> strip.run(length), () -> model.run(length));
        } else {
            compare(at + "load " + text, () -> strip.load(length), () -> model.load(length));
        }
        if (length > text.length()) {
            compare(at + "run, to empty the buffer", () -> strip.run(0), () -> model.run(0));
        }
    }

    private String spoilt(String text) {
        String[] pieces = {" ", ";", "(", ")", "(", "0", "9", "1000", "x", "-", "*", "+1", "level", "curve", "show;",
            "repeat", "feed 1 1;", "bad 0 dead;", "bad ", "~", "A", "\u00ff", "\t", "fill", "300", "stutter 2"};
        StringBuilder spoilt = new StringBuilder(text);
        int many = 1 + random.nextInt(2);
        for (int n = 0; n < many; n++) {
            int place = random.nextInt(spoilt.length() + 1);
            switch (random.nextInt(4)) {
                case 0:
                    spoilt.delete(place, Math.min(spoilt.length(), place + 1 + random.nextInt(4)));
                    break;
                case 1:
                    spoilt.setLength(place);
                    break;
                default:
                    spoilt.insert(place, pieces[random.nextInt(pieces.length)]);
                    break;
            }
        }
        return spoilt.toString();
    }

    private String space() {
        return random.nextInt(12) == 0 ? "  " : "";
    }

    private int rare(int number, int other) {
        return random.nextInt(60) == 0 ? other : number;
    }

    private String setup() {
        int size = random.nextInt(4) == 0 ? 1 + random.nextInt(40) : 1 + random.nextInt(12);
        StringBuilder text = new StringBuilder(space() + "strip " + rare(size, 41) + " "
                + rare(1 + random.nextInt(100), 0) + space() + ";");
        int statements = random.nextInt(16);
        for (int n = 0; n < statements; n++) {
            int pixel = rare(random.nextInt(size), size);
            switch (random.nextInt(9)) {
                case 0: case 1:
                    text.append("feed ").append(pixel).append(' ').append(rare(random.nextInt(300), 10000));
                    break;
                case 2: case 3: case 4:
                    text.append("bad ").append(pixel);
                    text.append(new String[] {"dead", " burnt", " stutter " + rare(2 + random.nextInt(8), 1),
                        "stutter2"}[random.nextInt(4)]);
                    break;
                case 5: case 6:
                    text.append("fill ").append(pixel).append(' ').append(rare(Math.min(size - 1,
                            pixel + random.nextInt(5)), 0)).append(' ').append(random.nextInt(256)).append(' ')
                            .append(rare(random.nextInt(256), 256)).append(' ').append(random.nextInt(256));
                    break;
                case 7:
                    text.append("level ").append(rare(random.nextInt(256), 256));
                    break;
                default:
                    text.append("curve ").append(sum(0));
                    break;
            }
            text.append(space()).append(';').append(space());
        }
        return text.toString();
    }

    private String sum(int depth) {
        StringBuilder text = new StringBuilder();
        int factors = 1 + random.nextInt(4);
        for (int n = 0; n < factors; n++) {
            text.append(n == 0 ? "" : String.valueOf("+-*/".charAt(random.nextInt(4)))).append(space());
            int kind = random.nextInt(8);
            if (kind < 2) {
                text.append('x');
            } else if (kind < 4) {
                text.append("level");
            } else if (kind < 6 && depth < 5) {
                text.append('(').append(sum(depth + 1)).append(')');
            } else {
                text.append(random.nextInt(3) == 0 ? random.nextInt(10001) : random.nextInt(300));
            }
        }
        return text.toString();
    }

    private String script(int depth) {
        StringBuilder text = new StringBuilder(space());
        int commands = random.nextInt(depth == 0 && random.nextInt(20) == 0 ? 70 : 5);
        for (int n = 0; n < commands; n++) {
            int pixel = rare(random.nextInt(pixels), pixels);
            switch (random.nextInt(8)) {
                case 0:
                    text.append("fill ").append(pixel).append(' ').append(rare(Math.min(pixels - 1,
                            pixel + random.nextInt(5)), pixels)).append(' ').append(random.nextInt(256)).append(' ')
                            .append(rare(random.nextInt(256), 256)).append(' ').append(rare(0, 10000));
                    break;
                case 1:
                    text.append("shift").append(random.nextInt(50));
                    break;
                case 2:
                    text.append("level ").append(rare(random.nextInt(256), 256));
                    break;
                case 3:
                    text.append("bypass ").append(pixel);
                    break;
                case 4: case 5:
                    text.append("show");
                    break;
                default:
                    text.append("repeat ").append(rare(1 + random.nextInt(20), 21)).append(space()).append('(');
                    text.append(depth < 4 ? script(depth + 1) : "").append(')');
                    break;
            }
            text.append(';').append(space());
        }
        return text.toString();
    }
}
