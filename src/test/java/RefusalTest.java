import java.util.ArrayList;
import java.util.List;
import java.util.function.Consumer;
import java.util.function.Supplier;

/**
 * "A call that throws changes nothing.": in every state each refused call throws the exception that the document
 * names, and what later calls answer is what they answer to a twin on which the refused call was not made.
 */
public final class RefusalTest {
    private static final Check CHECK = new Check();
    private static final String ARGUMENT = "IllegalArgumentException";
    private static final String STATE = "IllegalStateException";
    private static final int LOWEST = Integer.MIN_VALUE;
    private static final int HIGHEST = Integer.MAX_VALUE;

    private record Refused(String name, String exception, Consumer<EdgeRaster> call) {
    }

    private record State(String name, boolean walking, boolean onPlace, Supplier<EdgeRaster> make) {
    }

    public static void main(String[] args) {
        for (State state : states()) {
            List<Refused> refused = refusedIn(state);
            for (Refused one : refused) {
                dueNoTrace(state, List.of(one), true);
                dueNoTrace(state, List.of(one), false);
            }
            dueNoTrace(state, refused, true);
            dueNoTrace(state, refused, false);
        }
        CHECK.end();
    }

    private static void dueNoTrace(State state, List<Refused> refused, boolean curious) {
        EdgeRaster twin = state.make().get();
        EdgeRaster r = state.make().get();
        String name = refused.size() == 1 ? refused.get(0).name() : "all refused calls";
        for (Refused one : refused) {
            CHECK.compare(state.name() + ": " + one.name(), one.exception(),
                    Check.answer(Check.asSupplier(() -> one.call().accept(r))));
        }
        List<String> due = probe(twin, curious);
        List<String> got = probe(r, curious);
        for (int k = 0; k < due.size(); k++) {
            CHECK.compare(state.name() + ": probe " + k + " after " + name, due.get(k), got.get(k));
        }
    }

    /** Each value, depth and Q differs, so that a change of one of them shows. */
    private static EdgeRaster scene(boolean turned) {
        EdgeRaster r = new EdgeRaster();
        r.corner(0, 0, 0, 1000, 3);
        r.corner(turned ? 2 : 1, 64, 0, 200000, 50);
        r.corner(turned ? 1 : 2, 0, 64, 3000000, 700);
        r.window(0, 0, 8, 8);
        for (int j = 0; j < 3; j++) {
            for (int n = 0; n < 28; n++) {
                r.value(j, n, (j * 28 + n) * 1000003);
            }
        }
        return r;
    }

    private static EdgeRaster walked(boolean turned, int steps) {
        EdgeRaster r = scene(turned);
        r.walk();
        for (int k = 0; k < steps; k++) {
            r.next();
        }
        return r;
    }

    private static EdgeRaster ended() {
        EdgeRaster r = walked(false, 2);
        r.window(0, 0, 7, 7);
        return r;
    }

    private static EdgeRaster flat(int steps) {
        EdgeRaster r = scene(false);
        r.corner(0, 32, 32, 5, 5);
        r.walk();
        for (int k = 0; k < steps; k++) {
            r.next();
        }
        return r;
    }

    private static List<State> states() {
        return List.of(
                new State("new object", false, false, EdgeRaster::new),
                new State("no walk yet", false, false, () -> scene(false)),
                new State("walk ended", false, false, RefusalTest::ended),
                new State("ahead of the first place", true, false, () -> walked(false, 0)),
                new State("on the first place", true, true, () -> walked(false, 1)),
                new State("at a row's end", true, true, () -> walked(false, 3)),
                new State("on the last place", true, true, () -> walked(false, 6)),
                new State("NONE came", true, false, () -> walked(false, 7)),
                new State("NONE came twice", true, false, () -> walked(false, 8)),
                new State("turned, no walk yet", false, false, () -> scene(true)),
                new State("turned, on a place", true, true, () -> walked(true, 2)),
                new State("flat, ahead of the first place", true, false, () -> flat(0)),
                new State("flat, NONE came", true, false, () -> flat(1)));
    }

    private static List<Refused> refusedIn(State state) {
        List<Refused> refused = new ArrayList<>();
        addCorners(refused);
        addValues(refused);
        addWindows(refused);
        addPlaces(refused);
        for (int j : new int[] {-1, 3, LOWEST, HIGHEST}) {
            refused.add(new Refused("weight(" + j + ")", ARGUMENT, r -> r.weight(j)));
        }
        for (int n : new int[] {-1, 28, LOWEST, HIGHEST}) {
            refused.add(new Refused("at(" + n + ")", ARGUMENT, r -> r.at(n)));
        }
        if (!state.walking()) {
            refused.add(new Refused("next()", STATE, EdgeRaster::next));
        }
        if (!state.onPlace()) {
            addPlaceQuestions(refused);
        }
        return refused;
    }

    private static void addPlaceQuestions(List<Refused> refused) {
        for (int j : new int[] {0, 1, 2}) {
            refused.add(new Refused("weight(" + j + ")", STATE, r -> r.weight(j)));
        }
        refused.add(new Refused("depth()", STATE, EdgeRaster::depth));
        for (int n : new int[] {0, 13, 27}) {
            refused.add(new Refused("at(" + n + ")", STATE, r -> r.at(n)));
        }
    }

    private static void addCorners(List<Refused> refused) {
        for (int j : new int[] {-1, 3, LOWEST, HIGHEST}) {
            addCorner(refused, j, 17, 19, 99, 9);
        }
        for (int j : new int[] {0, 1, 2}) {
            for (int wrong : new int[] {Scenes.BACK - 1, Scenes.FAR + 1, LOWEST, HIGHEST}) {
                addCorner(refused, j, wrong, 19, 99, 9);
                addCorner(refused, j, 17, wrong, 99, 9);
            }
            for (int wrong : new int[] {-1, Scenes.DEEPEST + 1, LOWEST, HIGHEST}) {
                addCorner(refused, j, 17, 19, wrong, 9);
            }
            for (int wrong : new int[] {0, -1, Scenes.NEAREST + 1, LOWEST, HIGHEST}) {
                addCorner(refused, j, 17, 19, 99, wrong);
            }
        }
    }

    private static void addCorner(List<Refused> refused, int j, int x, int y, int depth, int q) {
        refused.add(new Refused("corner(" + j + ", " + x + ", " + y + ", " + depth + ", " + q + ")", ARGUMENT,
                r -> r.corner(j, x, y, depth, q)));
    }

    private static void addValues(List<Refused> refused) {
        for (int n : new int[] {0, 13, 27}) {
            for (int wrong : new int[] {-1, 3, LOWEST, HIGHEST}) {
                addValue(refused, wrong, n);
            }
        }
        for (int j : new int[] {0, 1, 2}) {
            for (int wrong : new int[] {-1, 28, LOWEST, HIGHEST}) {
                addValue(refused, j, wrong);
            }
        }
        addValue(refused, 3, -1);
        addValue(refused, -1, 28);
    }

    private static void addValue(List<Refused> refused, int j, int n) {
        refused.add(new Refused("value(" + j + ", " + n + ", 1999999999)", ARGUMENT, r -> r.value(j, n, 1999999999)));
    }

    private static void addWindows(List<Refused> refused) {
        for (int wrong : new int[] {-1, 1024, LOWEST, HIGHEST}) {
            addWindow(refused, wrong, 1, 2, 3);
            addWindow(refused, 1, wrong, 2, 3);
        }
        for (int wrong : new int[] {0, -1, 65, LOWEST, HIGHEST}) {
            addWindow(refused, 1, 1, wrong, 3);
            addWindow(refused, 1, 1, 2, wrong);
        }
    }

    private static void addWindow(List<Refused> refused, int x0, int y0, int wide, int high) {
        refused.add(new Refused("window(" + x0 + ", " + y0 + ", " + wide + ", " + high + ")", ARGUMENT,
                r -> r.window(x0, y0, wide, high)));
    }

    private static void addPlaces(List<Refused> refused) {
        for (int wrong : new int[] {-1025, 2048, LOWEST, HIGHEST}) {
            refused.add(new Refused("covers(" + wrong + ", 1)", ARGUMENT, r -> r.covers(wrong, 1)));
            refused.add(new Refused("covers(1, " + wrong + ")", ARGUMENT, r -> r.covers(1, wrong)));
        }
    }

    /**
     * What the place that came last answers, then the walk's rest, the questions, a new walk, and new settings.
     * If not curious, it goes on with the walk at once: a question refused on both twins could change both alike.
     */
    private static List<String> probe(EdgeRaster r, boolean curious) {
        List<String> answers = new ArrayList<>();
        if (curious) {
            addPlace(answers, r);
        }
        addSteps(answers, r, 9);
        answers.add(Check.answer(r::area));
        answers.add(Check.answer(r::many));
        for (int place = 0; place < 25; place++) {
            answers.add(Boolean.toString(r.covers(place % 5 - 1, place / 5 - 1)));
        }
        r.walk();
        addSteps(answers, r, 8);
        r.corner(2, 7, 70, 12, 2);
        answers.add(Check.answer(r::area));
        r.value(0, 13, 5);
        answers.add(Check.answer(r::next));
        answers.add(Check.answer(r::many));
        r.walk();
        addSteps(answers, r, 3);
        r.window(0, 0, 4, 4);
        answers.add(Check.answer(r::many));
        return answers;
    }

    private static void addSteps(List<String> answers, EdgeRaster r, int steps) {
        for (int k = 0; k < steps; k++) {
            answers.add(Check.answer(r::next));
            addPlace(answers, r);
        }
    }

    private static void addPlace(List<String> answers, EdgeRaster r) {
        for (int k = 0; k < 3; k++) {
            int j = k;
            answers.add(Check.answer(() -> r.weight(j)));
        }
        answers.add(Check.answer(r::depth));
        for (int n : new int[] {0, 13, 27}) {
            answers.add(Check.answer(() -> r.at(n)));
        }
    }
}
