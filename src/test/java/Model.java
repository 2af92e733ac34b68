import java.util.ArrayList;
import java.util.Arrays;
import java.util.List;
import java.util.NoSuchElementException;
import java.util.regex.Matcher;
import java.util.regex.Pattern;

/** The document once more, as slowly and as literally as can be, to be compared with the program. */
final class Model {
    private interface Node {
        long value(long x, long level);
    }

    private static final class TextError extends RuntimeException {
        private static final long serialVersionUID = 1L;
        private final int code;
        private final int offset;

        TextError(int code, int offset) {
            this.code = code;
            this.offset = offset;
        }
    }

    private static final class Pixel implements Cloneable {
        private int kind;
        private int period;
        private boolean bypassed;
        private int frames;
        private int taken;
        private int origin = -1;
        private int due;
        private int[] frame = new int[3];

        Pixel copy() {
            try {
                Pixel copy = (Pixel) super.clone();
                copy.frame = frame.clone();
                return copy;
            } catch (CloneNotSupportedException e) {
                throw new AssertionError(e);
            }
        }

        boolean lamp() {
            return !bypassed && (kind == 0 || kind == 3);
        }
    }

    private static final class Data {
        private final List<Pixel> pixels = new ArrayList<>();
        private final List<int[]> feeds = new ArrayList<>();
        private int unit = 1;
        private int level = 255;
        private int shows;
        private long account;
        private Node curve;

        Data(int many) {
            for (int i = 0; i < many; i++) {
                pixels.add(new Pixel());
            }
            feeds.add(new int[] {0, 9999});
        }

        Data copy() {
            Data copy = new Data(0);
            for (Pixel pixel : pixels) {
                copy.pixels.add(pixel.copy());
            }
            copy.feeds.clear();
            for (int[] feed : feeds) {
                copy.feeds.add(feed.clone());
            }
            copy.unit = unit;
            copy.level = level;
            copy.shows = shows;
            copy.account = account;
            copy.curve = curve;
            return copy;
        }

        int sent(int[] channels, int atLevel) {
            int color = 0;
            for (int x : channels) {
                long value = curve == null ? (long) x * atLevel / 255 : curve.value(x, atLevel);
                color = color * 256 + (int) (value < 0 ? 0 : value > 255 ? 255 : value);
            }
            return color;
        }

        void show() {
            List<int[]> row = new ArrayList<>();
            for (int i = 0; i < pixels.size(); i++) {
                Pixel pixel = pixels.get(i);
                pixel.due = sent(pixel.frame, level);
                if (!pixel.bypassed) {
                    row.add(new int[] {pixel.due, i});
                }
            }
            for (Pixel pixel : pixels) {
                if (pixel.bypassed || row.isEmpty()) {
                    continue;
                }
                pixel.frames++;
                if (pixel.kind == 1) {
                    row.clear();
                    continue;
                }
                pixel.taken = row.get(0)[0];
                pixel.origin = row.get(0)[1];
                if (pixel.kind != 3 || pixel.frames % pixel.period != 0) {
                    row.remove(0);
                }
            }
            shows++;
            account += current();
        }

        int wrong() {
            int wrong = 0;
            for (Pixel pixel : pixels) {
                if (!pixel.bypassed) {
                    wrong += pixel.kind == 1 || pixel.kind == 2 || pixel.taken != pixel.due ? 1 : 0;
                }
            }
            return wrong;
        }

        int feedOf(int pixel) {
            int found = 0;
            for (int i = 0; i < feeds.size(); i++) {
                found = feeds.get(i)[0] <= pixel ? i : found;
            }
            return found;
        }

        int load(int feed) {
            int load = 0;
            for (int i = 0; i < pixels.size(); i++) {
                if (feedOf(i) == feed && pixels.get(i).lamp()) {
                    load += currentOf(pixels.get(i).taken);
                }
            }
            return load;
        }

        int currentOf(int color) {
            return (color / 65536 + color / 256 % 256 + color % 256) * unit / 765;
        }

        int shown(int index) {
            Pixel pixel = pixels.get(index);
            if (!pixel.lamp()) {
                return 0;
            }
            int load = load(feedOf(index));
            int limit = feeds.get(feedOf(index))[1];
            if (load <= limit) {
                return pixel.taken;
            }
            int red = pixel.taken / 65536 * limit / load;
            int green = pixel.taken / 256 % 256 * limit / load;
            int blue = pixel.taken % 256 * limit / load;
            return 65536 * red + 256 * green + blue;
        }

        int current() {
            int sum = 0;
            for (int i = 0; i < pixels.size(); i++) {
                sum += currentOf(shown(i));
            }
            return sum;
        }

        int bad(boolean alsoBypassed) {
            int bad = 0;
            for (Pixel pixel : pixels) {
                bad += pixel.kind != 0 && (alsoBypassed || !pixel.bypassed) ? 1 : 0;
            }
            return bad;
        }
    }

    private final StringBuilder buffer = new StringBuilder();
    private Data data = new Data(1);
    private final Data[] slots = new Data[2];
    private final List<Data> undoable = new ArrayList<>();
    private int errorOffset = -1;
    private int ending = 0;
    private boolean isReadingSetup;
    private List<String> words;
    private List<Integer> offsets;
    private int token;
    private int[] script;
    private int scriptEnd;

    private void change() {
        undoable.add(data.copy());
        while (undoable.size() > 8) {
            undoable.remove(0);
        }
    }

    private void pixelDue(int pixel) {
        if (pixel < 0 || pixel >= data.pixels.size()) {
            throw new IndexOutOfBoundsException();
        }
    }

    private void feedDue(int feed) {
        if (feed < 0 || feed >= data.feeds.size()) {
            throw new IndexOutOfBoundsException();
        }
    }

    private static void due(int number, int least, int most) {
        if (number < least || number > most) {
            throw new IllegalArgumentException();
        }
    }

    long append(int... words) {
        if (buffer.length() + 20 > 600) {
            return -1;
        }
        for (int word : words) {
            buffer.append((char) (word >>> 24)).append((char) (word >>> 16 & 255));
            buffer.append((char) (word >>> 8 & 255)).append((char) (word & 255));
        }
        return buffer.length();
    }

    private static final Pattern TOKEN = Pattern.compile(" *([a-z]+|[0-9]+|[^ ])", Pattern.DOTALL);

    private void split(int length) {
        due(length, 0, buffer.length());
        String text = buffer.substring(0, length);
        buffer.setLength(0);
        words = new ArrayList<>();
        offsets = new ArrayList<>();
        token = 0;
        Matcher matcher = TOKEN.matcher(text);
        while (matcher.lookingAt()) {
            words.add(matcher.group(1));
            offsets.add(matcher.start(1));
            matcher.region(matcher.end(), length);
        }
        words.add("");
        offsets.add(length);
    }

    private String here() {
        return words.get(token);
    }

    private TextError error(int code) {
        return new TextError(code, offsets.get(token));
    }

    private void expect(String word) {
        if (!here().equals(word)) {
            throw error(LampStrip.SYNTAX_ERROR);
        }
        token++;
    }

    private int number(int least, int most) {
        if (!here().matches("[0-9]+")) {
            throw error(LampStrip.SYNTAX_ERROR);
        }
        java.math.BigInteger value = new java.math.BigInteger(here());
        if (value.bitLength() > 20 || value.intValue() < least || value.intValue() > most) {
            throw error(LampStrip.OUT_OF_RANGE);
        }
        token++;
        return value.intValue();
    }

    long load(int length) {
        split(length);
        Data fresh;
        try {
            fresh = setup();
        } catch (TextError error) {
            errorOffset = error.offset;
            return error.code;
        }
        errorOffset = -1;
        change();
        data = fresh;
        return data.pixels.size();
    }

    private Data setup() {
        expect("strip");
        Data fresh = new Data(number(1, 40));
        fresh.unit = number(1, 100);
        expect(";");
        List<Integer> fed = new ArrayList<>();
        List<Integer> bad = new ArrayList<>();
        List<String> once = new ArrayList<>();
        while (!here().isEmpty()) {
            statement(fresh, fed, bad, once);
            expect(";");
        }
        return fresh;
    }

    private void statement(Data fresh, List<Integer> fed, List<Integer> bad, List<String> once) {
        int last = fresh.pixels.size() - 1;
        String word = here();
        if (!List.of("feed", "bad", "fill", "level", "curve").contains(word) || once.contains(word)) {
            throw error(LampStrip.SYNTAX_ERROR);
        }
        if (word.equals("bad") && bad.size() == 10) {
            throw error(LampStrip.TOO_MANY);
        }
        token++;
        if (word.equals("feed")) {
            int pixel = number(0, last);
            token--;
            if (fed.contains(pixel)) {
                throw error(LampStrip.REPEATED);
            }
            fed.add(pixel);
            if (fed.stream().filter(p -> p != 0).count() > 5) {
                throw error(LampStrip.TOO_MANY);
            }
            token++;
            int limit = number(0, 9999);
            fresh.feeds.removeIf(feed -> feed[0] == pixel);
            fresh.feeds.add(new int[] {pixel, limit});
            fresh.feeds.sort((a, b) -> a[0] - b[0]);
        } else if (word.equals("bad")) {
            int pixel = number(0, last);
            token--;
            if (bad.contains(pixel)) {
                throw error(LampStrip.REPEATED);
            }
            bad.add(pixel);
            token++;
            int kind = List.of("dead", "burnt", "stutter").indexOf(here()) + 1;
            if (kind == 0) {
                throw error(LampStrip.SYNTAX_ERROR);
            }
            token++;
            fresh.pixels.get(pixel).kind = kind;
            fresh.pixels.get(pixel).period = kind == 3 ? number(2, 9) : 0;
        } else if (word.equals("fill")) {
            int from = number(0, last);
            int to = number(from, last);
            int[] color = {number(0, 255), number(0, 255), number(0, 255)};
            for (int i = from; i <= to; i++) {
                fresh.pixels.get(i).frame = color.clone();
            }
        } else if (word.equals("level")) {
            once.add(word);
            fresh.level = number(0, 255);
        } else {
            once.add(word);
            fresh.curve = sum(0);
        }
    }

    private static long limited(long value) {
        return value < -1000000 ? -1000000 : value > 1000000 ? 1000000 : value;
    }

    private Node sum(int depth) {
        Node left = term(depth);
        while (here().equals("+") || here().equals("-")) {
            int sign = here().equals("+") ? 1 : -1;
            token++;
            Node first = left;
            Node second = term(depth);
            left = (x, level) -> limited(first.value(x, level) + sign * second.value(x, level));
        }
        return left;
    }

    private Node term(int depth) {
        Node left = factor(depth);
        while (here().equals("*") || here().equals("/")) {
            boolean isProduct = here().equals("*");
            token++;
            Node first = left;
            Node second = factor(depth);
            left = (x, level) -> {
                long a = first.value(x, level);
                long b = second.value(x, level);
                return limited(isProduct ? a * b : b == 0 ? 0 : a / b);
            };
        }
        return left;
    }

    private Node factor(int depth) {
        if (here().equals("x")) {
            token++;
            return (x, level) -> x;
        }
        if (here().equals("level")) {
            token++;
            return (x, level) -> level;
        }
        if (here().equals("(")) {
            if (depth == 4) {
                throw error(LampStrip.TOO_DEEP);
            }
            token++;
            Node inner = sum(depth + 1);
            expect(")");
            return inner;
        }
        int value = number(0, 9999);
        return (x, level) -> value;
    }

    /** The script as a flat list of commands with all repeats written out is too long: it is done while it is read. */
    long run(int length) {
        split(length);
        script = new int[2];
        scriptEnd = 0;
        try {
            check(0);
            if (!here().isEmpty()) {
                throw error(LampStrip.SYNTAX_ERROR);
            }
        } catch (TextError error) {
            errorOffset = error.offset;
            return error.code;
        }
        errorOffset = -1;
        change();
        token = 0;
        follow();
        ending = scriptEnd;
        return script[1];
    }

    private void check(int depth) {
        while (!here().isEmpty() && !here().equals(")")) {
            int kind = List.of("show", "shift", "level", "bypass", "repeat", "fill").indexOf(here());
            if (kind < 0) {
                throw error(LampStrip.SYNTAX_ERROR);
            }
            if (++script[0] > 60) {
                throw error(LampStrip.TOO_MANY);
            }
            if (kind == 4 && depth == 3) {
                throw error(LampStrip.TOO_DEEP);
            }
            token++;
            if (kind == 4) {
                number(1, 20);
                expect("(");
                check(depth + 1);
                expect(")");
            } else {
                for (int n = 0; n < (kind == 0 ? 0 : kind == 5 ? 5 : 1); n++) {
                    number(0, 9999);
                }
            }
            expect(";");
        }
    }

    /** Does the commands from the token on up to a ")" or the end, which is the token then. */
    private void follow() {
        while (scriptEnd == 0 && !here().isEmpty() && !here().equals(")")) {
            String word = here();
            token++;
            if (word.equals("repeat")) {
                int times = number(1, 20);
                int start = token + 1;
                for (int time = 0; time < times && scriptEnd == 0; time++) {
                    token = start;
                    follow();
                }
                token += 2;
            } else {
                List<Integer> numbers = new ArrayList<>();
                while (!here().equals(";")) {
                    numbers.add(number(0, 9999));
                }
                token++;
                command(word, numbers);
            }
        }
    }

    private void command(String word, List<Integer> numbers) {
        if (script[1] == 200) {
            scriptEnd = 1;
            return;
        }
        List<Data> before = new ArrayList<>(undoable);
        try {
            switch (word) {
                case "fill":
                    fill(numbers.get(0), numbers.get(1), numbers.get(2), numbers.get(3), numbers.get(4));
                    break;
                case "shift":
                    shift(numbers.get(0));
                    break;
                case "level":
                    level(numbers.get(0));
                    break;
                case "show":
                    show(1);
                    break;
                default:
                    bypass(numbers.get(0), true);
                    break;
            }
            script[1]++;
        } catch (IllegalArgumentException e) {
            scriptEnd = 2;
        } catch (IndexOutOfBoundsException e) {
            scriptEnd = 3;
        }
        undoable.clear();
        undoable.addAll(before);
    }

    long errorOffset() {
        return errorOffset;
    }

    long ending() {
        return ending;
    }

    long state(int what) {
        due(what, 0, 9);
        int bypassed = 0;
        for (Pixel pixel : data.pixels) {
            bypassed += pixel.bypassed ? 1 : 0;
        }
        long[] answers = {data.pixels.size(), data.unit, data.level, data.feeds.size(), bypassed, data.shows,
            data.wrong(), data.current(), data.account, data.bad(false)};
        return answers[what];
    }

    long pixel(int index, int what) {
        pixelDue(index);
        due(what, 0, 8);
        Pixel pixel = data.pixels.get(index);
        int[] answers = {pixel.kind, pixel.bypassed ? 1 : 0, pixel.period, pixel.frames, data.shown(index),
            pixel.taken, pixel.due, pixel.origin,
            65536 * pixel.frame[0] + 256 * pixel.frame[1] + pixel.frame[2]};
        return answers[what];
    }

    long feed(int feed, int what) {
        feedDue(feed);
        due(what, 0, 3);
        int last = 0;
        for (int i = 0; i < data.pixels.size(); i++) {
            last = data.feedOf(i) == feed ? i : last;
        }
        int[] answers = {data.feeds.get(feed)[0], data.feeds.get(feed)[1], data.load(feed), last};
        return answers[what];
    }

    long why(int index) {
        pixelDue(index);
        Pixel pixel = data.pixels.get(index);
        boolean isDeadAhead = false;
        for (Pixel ahead : data.pixels.subList(0, index)) {
            isDeadAhead |= ahead.kind == 1 && !ahead.bypassed;
        }
        boolean isOther = pixel.taken != pixel.due;
        int feed = data.feedOf(index);
        boolean[] reasons = {pixel.bypassed, pixel.kind == 1, pixel.kind == 2, pixel.origin == -1,
            isOther && isDeadAhead, isOther && pixel.origin != index, isOther,
            data.load(feed) > data.feeds.get(feed)[1]};
        for (int i = 0; i < reasons.length; i++) {
            if (reasons[i]) {
                return i + 1;
            }
        }
        return 0;
    }

    long origin(int index) {
        pixelDue(index);
        Data shown = data.copy();
        shown.pixels.get(index).origin = -1;
        shown.show();
        return shown.pixels.get(index).origin;
    }

    long wrongIn(int times) {
        due(times, 1, 20);
        Data shown = data.copy();
        for (int i = 0; i < times; i++) {
            shown.show();
        }
        return shown.wrong();
    }

    long plan(int many) {
        due(many, 0, 10);
        List<Integer> bad = new ArrayList<>();
        for (int i = data.pixels.size() - 1; i >= 0; i--) {
            if (data.pixels.get(i).kind != 0 && !data.pixels.get(i).bypassed) {
                bad.add(i);
            }
        }
        long[] best = null;
        for (int subset = 0; subset < 1 << bad.size(); subset++) {
            if (Integer.bitCount(subset) > many) {
                continue;
            }
            Data shown = data.copy();
            long sum = 0;
            for (int i = 0; i < bad.size(); i++) {
                if ((subset >> i & 1) == 1) {
                    shown.pixels.get(bad.get(i)).bypassed = true;
                    sum += 1L << bad.get(i);
                }
            }
            shown.show();
            long[] found = {shown.wrong(), Integer.bitCount(subset), sum};
            if (best == null || Arrays.compare(found, best) < 0) {
                best = found;
            }
        }
        return best[2];
    }

    long greatestLevel() {
        int greatest = -1;
        for (int level = 0; level <= 255; level++) {
            int[] loads = new int[data.feeds.size()];
            for (int i = 0; i < data.pixels.size(); i++) {
                if (data.pixels.get(i).lamp()) {
                    loads[data.feedOf(i)] += data.currentOf(data.sent(data.pixels.get(i).frame, level));
                }
            }
            boolean isEnough = true;
            for (int feed = 0; feed < loads.length; feed++) {
                isEnough &= loads[feed] <= data.feeds.get(feed)[1];
            }
            greatest = isEnough ? level : greatest;
        }
        return greatest;
    }

    double usage() {
        int sum = 0;
        for (int[] feed : data.feeds) {
            sum += feed[1];
        }
        return sum == 0 ? 0.0 : (double) data.current() / sum;
    }

    long fill(int from, int to, int red, int green, int blue) {
        pixelDue(from);
        pixelDue(to);
        due(from, 0, to);
        due(red, 0, 255);
        due(green, 0, 255);
        due(blue, 0, 255);
        change();
        int others = 0;
        int[] color = {red, green, blue};
        for (Pixel pixel : data.pixels.subList(from, to + 1)) {
            others += Arrays.equals(pixel.frame, color) ? 0 : 1;
            pixel.frame = color.clone();
        }
        return others;
    }

    long shift(int by) {
        due(by, 0, 9999);
        change();
        for (int n = 0; n < by; n++) {
            int[] last = data.pixels.get(data.pixels.size() - 1).frame;
            for (int i = data.pixels.size() - 1; i > 0; i--) {
                data.pixels.get(i).frame = data.pixels.get(i - 1).frame;
            }
            data.pixels.get(0).frame = last;
        }
        return pixel(0, 8);
    }

    long level(int level) {
        due(level, 0, 255);
        change();
        int before = data.level;
        data.level = level;
        return before;
    }

    long show(int times) {
        due(times, 1, 50);
        change();
        for (int i = 0; i < times; i++) {
            data.show();
        }
        return data.wrong();
    }

    long bypass(int pixel, boolean isOn) {
        pixelDue(pixel);
        change();
        boolean before = data.pixels.get(pixel).bypassed;
        data.pixels.get(pixel).bypassed = isOn;
        return before ? 1 : 0;
    }

    long damage(int index, int kind, int period) {
        pixelDue(index);
        due(kind, 0, 3);
        due(period, kind == 3 ? 2 : 0, kind == 3 ? 9 : 0);
        Pixel pixel = data.pixels.get(index);
        if (data.bad(true) - (pixel.kind != 0 ? 1 : 0) + (kind != 0 ? 1 : 0) > 10) {
            throw new IllegalStateException();
        }
        change();
        pixel = data.pixels.get(index);
        int before = pixel.kind;
        pixel.kind = kind;
        pixel.period = period;
        return before;
    }

    long limit(int feed, int limit) {
        feedDue(feed);
        due(limit, 0, 9999);
        change();
        int before = data.feeds.get(feed)[1];
        data.feeds.get(feed)[1] = limit;
        return before;
    }

    private void slotDue(int slot) {
        if (slot < 0 || slot > 1) {
            throw new IndexOutOfBoundsException();
        }
    }

    long keep(int slot) {
        slotDue(slot);
        slots[slot] = data.copy();
        return data.wrong();
    }

    long restore(int slot) {
        slotDue(slot);
        if (slots[slot] == null) {
            throw new NoSuchElementException();
        }
        change();
        data = slots[slot].copy();
        return data.wrong();
    }

    long undo() {
        if (undoable.isEmpty()) {
            return -1;
        }
        data = undoable.remove(undoable.size() - 1);
        return undoable.size();
    }

    long checksum() {
        long sum = 0;
        for (int what = 0; what <= 9; what++) {
            sum = 31 * sum + state(what);
        }
        for (int i = 0; i < data.pixels.size(); i++) {
            for (int what = 0; what <= 8; what++) {
                sum = 31 * sum + pixel(i, what);
            }
        }
        for (int i = 0; i < data.feeds.size(); i++) {
            for (int what = 0; what <= 3; what++) {
                sum = 31 * sum + feed(i, what);
            }
        }
        return sum;
    }
}
