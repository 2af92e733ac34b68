import java.util.NoSuchElementException;

/** The edges that the document names for changes: undo, what is final, and the two slots. */
public final class EdgeChangesTest {
    private static final int LATEST = 8;

    private EdgeChangesTest() {
    }

    public static void main(String[] args) {
        Edges.runAll(EdgeChangesTest.class);
    }

    private static void due(String what, long got, long want) {
        Checks.due(what, got, want);
    }

    @Sentence(promise = 1, value = "Before the first successful load there is one good pixel, the unit is 1, the "
            + "limit of its feed 9999, the level 255, the frame black, there is no curve, and both slots are empty.")
    private static void beforeTheFirstLoad() {
        for (int failed = 0; failed < 2; failed++) {
            LampStrip x = new LampStrip();
            if (failed == 1) {
                due("a load with an error", Checks.load(x, "strip 9 9;level 9;feed 0 9;curve 9;what"), Edges.SYNTAX);
            }
            int[] states = {1, 1, 255, 1, 0, 0, 0, 0, 0, 0};
            for (int what = 0; what <= 9; what++) {
                due("state(" + what + ")", x.state(what), states[what]);
            }
            for (int what = 0; what <= 8; what++) {
                due("pixel(0, " + what + ")", x.pixel(0, what), what == 7 ? -1 : 0);
            }
            int[] feeds = {0, 9999, 0, 0};
            for (int what = 0; what <= 3; what++) {
                due("feed(0, " + what + ")", x.feed(0, what), feeds[what]);
            }
            Checks.dueThrow("slot 0", x, Edges.ELEMENT, () -> x.restore(0));
            Checks.dueThrow("slot 1", x, Edges.ELEMENT, () -> x.restore(1));
            x.fill(0, 0, 255, 100, 1);
            x.show(1);
            due("sent without a curve", x.pixel(0, 5), Checks.color(255, 100, 1));
            due("current of a pixel with a unit of 1", x.state(7), 0);
            x.level(100);
            x.show(1);
            due("sent without a curve at another level", x.pixel(0, 5), Checks.color(100, 39, 0));
            due("changes", x.undo(), 3);
        }
    }

    private static final Edges.Use[] CHANGES = {
        x -> Checks.load(x, "strip 12 60;"), x -> Checks.run(x, ""), x -> Checks.run(x, "level 256;"),
        x -> x.fill(0, 0, x.pixel(0, 8) >> 16, x.pixel(0, 8) >> 8 & 255, x.pixel(0, 8) & 255), x -> x.shift(0),
        x -> x.shift(12), x -> x.level(x.state(2)), x -> x.show(1), x -> x.show(50), x -> x.bypass(0, false),
        x -> x.bypass(5, true), x -> x.damage(0, 0, 0), x -> x.damage(2, 3, 3), x -> x.limit(0, 300),
        x -> x.restore(0)};

    @Sentence(promise = 25, value = "each such call that does not throw an exception is one change, also if all "
            + "data stay as they were.")
    private static void eachIsOneChange() {
        for (int i = 0; i < CHANGES.length; i++) {
            LampStrip x = Checks.made("strip 12 60;");
            x.undo();
            due("nothing is left", x.undo(), -1);
            x.keep(0);
            Checks.load(x, "strip 12 60;feed 0 300;bad 2 stutter 3;");
            x.bypass(5, true);
            String before = Edges.dataOf(x);
            CHANGES[i].make(x);
            due("one of three, change " + i, x.undo(), 2);
            Checks.dueTrue("as it was ahead of change " + i, Edges.dataOf(x).equals(before));
        }
    }

    @Sentence(promise = 25, value = "The changing methods are load and run (when the text has no error), fill, "
            + "shift, level, show, bypass, damage, limit and restore;")
    private static void allOthersAreNoChange() {
        Edges.Use[] others = {x -> x.append(0, 0, 0, 0, 0), x -> Checks.load(x, "what"), x -> Checks.load(x, ""),
            x -> Checks.run(x, "what"), x -> x.errorOffset(), x -> x.ending(), x -> x.state(0), x -> x.pixel(0, 0),
            x -> x.feed(0, 0), x -> x.why(0), x -> x.origin(0), x -> x.wrongIn(20), x -> x.plan(10),
            x -> x.greatestLevel(), x -> x.usage(), x -> x.keep(0), x -> x.keep(1), x -> x.checksum()};
        for (int i = 0; i < others.length; i++) {
            LampStrip x = new LampStrip();
            others[i].make(x);
            due("none to undo, call " + i, x.undo(), -1);
            LampStrip y = Edges.rich();
            String before = Edges.dataOf(y);
            others[i].make(y);
            Checks.dueTrue("the same data, call " + i, Edges.dataOf(y).equals(before));
            due("the latest change is undone, call " + i, y.undo(), 7);
        }
    }

    @Sentence(promise = 25, value = "The latest 8 changes can be undone, the latest one first;")
    private static void latest8CanBeUndone() {
        for (int many = 0; many <= 20; many++) {
            LampStrip x = new LampStrip();
            for (int n = 0; n < many; n++) {
                x.level(n);
            }
            int undoable = Math.min(LATEST, many);
            for (int left = undoable - 1; left >= 0; left--) {
                due("left of " + many, x.undo(), left);
                int before = many - (undoable - left);
                due("level before change " + before, x.state(2), before == 0 ? 255 : before - 1);
            }
            due("no more of " + many, x.undo(), -1);
            due("the level stays", x.state(2), many <= LATEST ? 255 : many - LATEST - 1);
        }
    }

    @Sentence(promise = 25, value = "a change is final as soon as 8 later ones, none of them undone, have been made.")
    private static void finalBehind8Later() {
        for (int undone = 0; undone <= LATEST; undone++) {
            for (int later = 0; later <= LATEST + 1; later++) {
                LampStrip x = new LampStrip();
                for (int n = 1; n <= LATEST; n++) {
                    x.level(n);
                }
                for (int n = 0; n < undone; n++) {
                    x.undo();
                }
                for (int n = 0; n < later; n++) {
                    x.level(100 + n);
                }
                int made = LATEST - undone + later;
                int left = Math.min(LATEST, made);
                for (int n = left - 1; n >= 0; n--) {
                    due("left, " + undone + " undone, " + later + " later", x.undo(), n);
                }
                due("no more", x.undo(), -1);
                int stays = made - left;
                int old = LATEST - undone;
                int level = stays == 0 ? 255 : stays <= old ? stays : 100 + stays - old - 1;
                due("what is final, " + undone + " undone, " + later + " later", x.state(2), level);
            }
        }
    }

    @Sentence(promise = 25, value = "If several exceptions apply to a call, the one that is listed first with the "
            + "method is thrown.")
    private static void firstListedException() {
        int[][] calls = {{-1, -1}, {-1, 99}, {40, -1}, {40, 99}};
        for (int[] call : calls) {
            Edges.refused("pixel", Edges.INDEX, Edges::rich, x -> x.pixel(call[0], call[1]));
            Edges.refused("feed", Edges.INDEX, Edges::rich, x -> x.feed(call[0], call[1]));
            Edges.refused("fill, from", Edges.INDEX, Edges::rich, x -> x.fill(call[0], 0, 256, 0, 0));
            Edges.refused("fill, to", Edges.INDEX, Edges::rich, x -> x.fill(5, call[0], 0, 0, -1));
            Edges.refused("damage", Edges.INDEX, Edges::tenBad, x -> x.damage(call[0], call[1], 1));
            Edges.refused("limit", Edges.INDEX, Edges::rich, x -> x.limit(call[0], call[1] < 0 ? -1 : 10000));
            Edges.refused("restore", Edges.INDEX, LampStrip::new, x -> x.restore(call[0]));
        }
        Edges.refused("damage, kind and 11th", Edges.ARGUMENT, Edges::tenBad, x -> x.damage(10, 4, 0));
        Edges.refused("damage, period and 11th", Edges.ARGUMENT, Edges::tenBad, x -> x.damage(10, 2, 2));
    }

    @Sentence(promise = 25, value = "A method that throws an exception changes nothing.")
    private static void exceptionsChangeNothing() {
        // Behind each refused call the same history, so that none of them took the place of a change.
        LampStrip x = Edges.richWithText();
        Edges.Use[] refused = {y -> y.load(21), y -> y.run(-1), y -> y.state(10), y -> y.pixel(12, 0),
            y -> y.pixel(0, 9),
            y -> y.feed(3, 0), y -> y.feed(0, 4), y -> y.why(12), y -> y.origin(-1), y -> y.wrongIn(0), y -> y.plan(11),
            y -> y.fill(0, 12, 1, 1, 1), y -> y.fill(2, 1, 1, 1, 1), y -> y.fill(0, 11, 1, 1, 256), y -> y.shift(10000),
            y -> y.level(256), y -> y.show(51), y -> y.bypass(12, true), y -> y.damage(12, 1, 0),
            y -> y.damage(0, 3, 1),
            y -> y.limit(3, 1), y -> y.limit(0, -1), y -> y.keep(2), y -> y.restore(2), y -> y.restore(1)};
        for (int round = 0; round < 3; round++) {
            for (int i = 0; i < refused.length; i++) {
                boolean isThrown = false;
                try {
                    refused[i].make(x);
                } catch (IllegalArgumentException | IndexOutOfBoundsException | NoSuchElementException e) {
                    isThrown = true;
                }
                Checks.dueTrue("call " + i + " throws", isThrown);
            }
        }
        Edges.same("all of them", x, Edges.richWithText());
        Edges.refused("the 11th bad one", Edges.STATE, Edges::tenBad, y -> y.damage(10, 1, 0));
    }

    @Sentence(promise = 23, value = "Keeps all data in a slot, with all counts (this is no change, and is not "
            + "undone).")
    private static void keepsAllData() {
        for (int slot = 0; slot < 2; slot++) {
            LampStrip x = Edges.rich();
            String kept = Edges.dataOf(x);
            due("wrong ones", x.keep(slot), x.state(6));
            Checks.dueTrue("the data stay", Edges.dataOf(x).equals(kept));
            x.show(7);
            x.damage(11, 2, 0);
            x.bypass(11, true);
            x.limit(2, 5);
            x.fill(0, 11, 3, 2, 1);
            x.level(17);
            Checks.load(x, "strip 40 100;curve 255-x;");
            x.show(50);
            x.restore(slot);
            Checks.dueTrue("all of them, with the counts", Edges.dataOf(x).equals(kept));
            LampStrip y = Edges.rich();
            x.show(3);
            y.show(3);
            Checks.dueTrue("and they go on as they would have", Edges.dataOf(x).equals(Edges.dataOf(y)));
        }
        LampStrip full = Edges.rich();
        full.keep(1);
        due("it took no place of a change", full.undo(), 7);
        Edges.dataOf(full);
        due("it is not undone", full.restore(1), full.state(6));
        Checks.dueTrue("what was kept", Edges.dataOf(full).equals(Edges.dataOf(Edges.rich())));
        LampStrip again = Edges.rich();
        again.keep(0);
        again.keep(0);
        again.level(1);
        due("a full slot takes others", again.keep(0), again.state(6));
        again.level(2);
        again.restore(0);
        due("the latest ones", again.state(2), 1);
    }

    @Sentence(promise = 24, value = "Replaces all data by those of a slot, which stay there.")
    private static void restoresAllData() {
        LampStrip x = Edges.rich();
        x.keep(1);
        String kept = Edges.dataOf(x);
        x.restore(0);
        String first = Edges.dataOf(x);
        due("slot 0 has what was loaded", x.state(5), 0);
        for (int n = 0; n < 3; n++) {
            x.restore(1);
            Checks.dueTrue("slot 1 again", Edges.dataOf(x).equals(kept));
            x.show(2);
            x.fill(0, 11, 5, 5, 5);
            x.bypass(0, true);
            x.damage(0, 1, 0);
            x.limit(0, 1);
            x.restore(0);
            Checks.dueTrue("slot 0 again", Edges.dataOf(x).equals(first));
            x.show(2);
            x.shift(1);
            x.damage(2, 0, 0);
        }
        x.restore(0);
        x.restore(0);
        Checks.dueTrue("twice", Edges.dataOf(x).equals(first));
        due("it is one change", x.undo(), 7);
        Checks.dueTrue("undone", Edges.dataOf(x).equals(first));
        LampStrip y = Edges.rich();
        String before = Edges.dataOf(y);
        y.restore(0);
        due("it can be undone", y.undo(), 7);
        Checks.dueTrue("all data are those before", Edges.dataOf(y).equals(before));
    }

    @Sentence(promise = 25, value = "Undoes the latest change that is not final and has not been undone.")
    private static void undoesAnyChange() {
        Edges.Use[] changes = {x -> Checks.load(x, "strip 40 100;curve 255-x;"), x -> Checks.load(x, "strip 1 1;"),
            x -> Checks.run(x, "repeat 3(show;shift 5;bypass 1;level 3;fill 0 9 9 9 9;);"), x -> x.fill(0, 11, 1, 1, 1),
            x -> x.shift(5), x -> x.level(1), x -> x.show(50), x -> x.bypass(3, true), x -> x.bypass(5, false),
            x -> x.damage(0, 3, 9), x -> x.damage(2, 0, 0), x -> x.limit(2, 1), x -> x.restore(0)};
        String before = Edges.dataOf(Edges.rich());
        for (int i = 0; i < changes.length; i++) {
            LampStrip x = Edges.rich();
            changes[i].make(x);
            Checks.dueTrue("change " + i + " changes something", !Edges.dataOf(x).equals(before));
            due("undo of change " + i, x.undo(), 7);
            Checks.dueTrue("all data are those before change " + i, Edges.dataOf(x).equals(before));
            x.show(1);
            LampStrip y = Edges.rich();
            y.show(1);
            Checks.dueTrue("and go on, behind change " + i, Edges.dataOf(x).equals(Edges.dataOf(y)));
        }
    }

    @Sentence(promise = 25, value = "The input buffer, the error offset, ending() and the slots are not affected.")
    private static void undoLeavesTheRest() {
        LampStrip x = new LampStrip();
        x.level(9);
        x.keep(0);
        x.level(8);
        Checks.run(x, "show;bypass 1;");
        Checks.run(x, "level");
        x.keep(1);
        Checks.put(x, "level 77;");
        due("left", x.undo(), 2);
        due("the error offset", x.errorOffset(), 5);
        due("ending, of a script that was undone", x.ending(), 3);
        x.undo();
        due("left of two", x.undo(), 0);
        due("the buffer", x.append(Edges.SPACES, Edges.SPACES, Edges.SPACES, Edges.SPACES, Edges.SPACES), 40);
        due("its text", x.run(40), 1);
        due("what it does", x.state(2), 77);
        x.restore(0);
        due("slot 0", x.state(2), 9);
        due("of that time", x.state(5), 0);
        x.restore(1);
        due("slot 1", x.state(2), 8);
        due("of another time", x.state(5), 1);
        LampStrip y = new LampStrip();
        Checks.run(y, "bypass 1;");
        due("undo of the first script", y.undo(), 0);
        due("its ending stays", y.ending(), 3);
        due("its error offset", y.errorOffset(), -1);
    }

    @Sentence(promise = 25, value = "Returns the number of changes that can still be undone; -1 if there was none "
            + "to undo, and nothing changes then.")
    private static void undoReturns() {
        LampStrip x = new LampStrip();
        for (int n = 0; n < 3; n++) {
            due("none of a new object", x.undo(), -1);
        }
        Edges.harmless("undo of a new object", LampStrip::new, y -> y.undo());
        x.level(1);
        due("the only one", x.undo(), 0);
        due("none is left", x.undo(), -1);
        due("none, again", x.undo(), -1);
        due("as it was", x.state(2), 255);
        x.level(2);
        x.level(3);
        due("one is left", x.undo(), 1);
        due("of the changes behind an undo in vain", x.state(2), 2);
        Edges.harmless("undo in vain", EdgeChangesTest::usedUp, y -> y.undo());
        Edges.harmless("undo in vain, often", EdgeChangesTest::usedUp, y -> {
            for (int n = 0; n < 10; n++) {
                due("none of one that is used up", y.undo(), -1);
            }
        });
    }

    /** A rich object that has no change left to undo. */
    private static LampStrip usedUp() {
        LampStrip x = Edges.richWithText();
        for (int n = 0; n < LATEST; n++) {
            due("left in a rich object", x.undo(), LATEST - 1 - n);
        }
        return x;
    }

    @Sentence(promise = 1, value = "An object is used for at most 512 calls after it has been made;")
    private static void lastsFor512Calls() {
        LampStrip x = new LampStrip();
        String text = "strip 40 100;feed 0 4000;fill 0 39 255 255 255;";
        Checks.load(x, text);
        int calls = 1 + (text.length() + 19) / 20;
        int shown = 0;
        while (calls + 4 <= 500) {
            Checks.run(x, "repeat 20(repeat 10(show;););");
            calls += 3;
            shown += 200;
        }
        due("shown", x.state(5), shown);
        due("frames", x.pixel(39, 3), shown);
        due("account", x.state(8), shown * 4000);
        Checks.dueTrue("it is far from an overflow", 512L * 200 * 4000 < Integer.MAX_VALUE);
        LampStrip y = new LampStrip();
        for (int n = 0; n < 503; n++) {
            y.level(n % 256);
        }
        for (int left = LATEST - 1; left >= -1; left--) {
            due("undo behind many changes", y.undo(), left);
        }
        due("the level of then", y.state(2), 494 % 256);
    }
}
