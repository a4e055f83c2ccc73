import java.util.function.ToIntFunction;

/**
 * Runs in which the graph changes between the questions, or the questions go from component to
 * component. All answers were worked out by hand from the document.
 */
public final class SplitForestChanges {
    private static final int NONE = SplitForest.NONE;
    /** The path 0 - 1 - 2 - 3 and the circle 4 - 5 - 6 - 7 - 8. */
    private static final String PATH_AND_CIRCLE = "01 12 23 45 56 67 78 84";
    /** The circle 0 - 2 - 4 - 6 - 8 and the star with the centre 3 and 1, 5 and 7 around it. */
    private static final String CIRCLE_AND_STAR = "02 24 46 68 80 13 35 37";
    /** The complete graph of 0, 3 and 6, the path 1 - 4 - 7 - 8, and the edge between 2 and 5. */
    private static final String THREE_COMPONENTS = "03 36 60 14 47 78 25";
    /** The path 0 - 1 - 2 - 3, the circle 4 - 5 - 6 - 7, as large, and 8 alone. */
    private static final String TWO_OF_ONE_SIZE = "01 12 23 45 56 67 74";
    private static int wrong = 0;

    public static void main(String[] args) {
        pathMadeComplete();
        pathMadeACircle();
        circleOpened();
        circleMadeEachObstacle();
        componentsMadeOneAndTwo();
        otherComponentChanged();
        twoComponentsInTurn();
        threeComponentsInTurn();
        componentsOfOneSizeInTurn();
        refusedFlipsBetween();
        questionsChangeNothing();
        twoObjectsInTurn();
        System.out.println(wrong == 0 ? "all answers are as due" : wrong + " answers are not as due");
        if (wrong != 0) {
            System.exit(1);
        }
    }

    private static void due(String what, int got, int want) {
        if (got != want) {
            wrong++;
            System.out.println(what + " answered " + got + ", due is " + want);
        }
    }

    private static int one(boolean answer) {
        return answer ? 1 : 0;
    }

    /** The edges are told as pairs of digits, such as "01 12". */
    private static void flip(SplitForest x, String edges) {
        for (String edge : edges.split(" ")) {
            x.flip(edge.charAt(0) - '0', edge.charAt(1) - '0');
        }
    }

    private static SplitForest graph(String edges) {
        SplitForest made = new SplitForest(9);
        flip(made, edges);
        return made;
    }

    /** A graph, flips that change it, and questions before them, after them, and when they are undone. */
    private static final class Change {
        final String name;
        final String edges;
        final String flips;

        Change(String name, String edges, String flips) {
            this.name = name;
            this.edges = edges;
            this.flips = flips;
        }

        void due(String what, ToIntFunction<SplitForest> question, int before, int changed) {
            SplitForest x = graph(edges);
            for (int turn = 0; turn < 3; turn++) {
                answers("before, turn " + turn, what, x, question, before);
                flip(x, flips);
                answers("changed, turn " + turn, what, x, question, changed);
                flip(x, flips);
            }
            answers("at last", what, x, question, before);
        }

        /** Asked twice, since the second answer may come from what the first one left. */
        private void answers(String when, String what, SplitForest x, ToIntFunction<SplitForest> question,
                int want) {
            String told = name + ", " + when + ": " + what;
            SplitForestChanges.due(told, question.applyAsInt(x), want);
            SplitForestChanges.due(told + " once more", question.applyAsInt(x), want);
        }
    }

    private static void pathMadeComplete() {
        Change c = new Change("path made complete", PATH_AND_CIRCLE, "02 03 13");
        c.due("vertices()", x -> x.vertices(), 9, 9);
        c.due("neighbours(2, 0)", x -> one(x.neighbours(2, 0)), 0, 1);
        c.due("component(2)", x -> x.component(2), 15, 15);
        c.due("splits(2)", x -> x.splits(2), 1, 3);
        c.due("strong(2)", x -> x.strong(2), 1, 0);
        c.due("set(2, 1)", x -> x.set(2, 1), 12, NONE);
        c.due("kind(2, 0)", x -> x.kind(2, 0), SplitForest.STAR, SplitForest.CLIQUE);
        c.due("kind(2, 1)", x -> x.kind(2, 1), SplitForest.STAR, NONE);
        c.due("parts(2, 0)", x -> x.parts(2, 0), 3, 4);
        c.due("parts(2, 1)", x -> x.parts(2, 1), 3, NONE);
        c.due("part(2, 0, 2)", x -> x.part(2, 0, 2), 12, 4);
        c.due("part(2, 0, 3)", x -> x.part(2, 0, 3), NONE, 8);
        c.due("part(2, 1, 0)", x -> x.part(2, 1, 0), 3, NONE);
        c.due("centre(2, 0)", x -> x.centre(2, 0), 2, NONE);
        c.due("centre(2, 1)", x -> x.centre(2, 1), 4, NONE);
        c.due("linked(2, 0)", x -> one(x.linked(2, 0)), 0, 1);
        c.due("hereditary(2)", x -> one(x.hereditary(2)), 1, 1);
        c.due("step(2, 0)", x -> x.step(2, 0), 3 + 16 * 2, 3 + 512);
        c.due("step(2, 1)", x -> x.step(2, 1), 2 + 16, 2 + 512);
        c.due("step(2, 2)", x -> x.step(2, 2), 1, 1);
        c.due("apart(2)", x -> x.apart(2), 2, 1);
        c.due("chosen(2)", x -> x.chosen(2), 5, 1);
        c.due("cover(2)", x -> x.cover(2), 2, 1);
    }

    /** The number of splits and the component stay as they were, but the split is another one. */
    private static void pathMadeACircle() {
        Change c = new Change("path made a circle", PATH_AND_CIRCLE, "03");
        c.due("component(1)", x -> x.component(1), 15, 15);
        c.due("splits(1)", x -> x.splits(1), 1, 1);
        c.due("set(1, 1)", x -> x.set(1, 1), 12, 10);
        c.due("part(1, 0, 1)", x -> x.part(1, 0, 1), 2, 4);
        c.due("part(1, 0, 2)", x -> x.part(1, 0, 2), 12, 10);
        c.due("part(1, 1, 0)", x -> x.part(1, 1, 0), 3, 2);
        c.due("centre(1, 0)", x -> x.centre(1, 0), 2, 10);
        c.due("centre(1, 1)", x -> x.centre(1, 1), 4, 5);
        c.due("linked(3, 0)", x -> one(x.linked(3, 0)), 0, 1);
        c.due("step(1, 0)", x -> x.step(1, 0), 3 + 16 * 2, 3 + 16 + 256);
    }

    private static void circleOpened() {
        Change c = new Change("circle opened", PATH_AND_CIRCLE, "48");
        c.due("component(6)", x -> x.component(6), 496, 496);
        c.due("splits(6)", x -> x.splits(6), 0, 2);
        c.due("strong(6)", x -> x.strong(6), 0, 2);
        c.due("set(6, 0)", x -> x.set(6, 0), 496, 496);
        c.due("set(6, 1)", x -> x.set(6, 1), NONE, 384);
        c.due("set(6, 2)", x -> x.set(6, 2), NONE, 448);
        c.due("kind(6, 0)", x -> x.kind(6, 0), SplitForest.PRIME, SplitForest.STAR);
        c.due("parts(6, 0)", x -> x.parts(6, 0), 5, 3);
        c.due("part(6, 0, 2)", x -> x.part(6, 0, 2), 64, 448);
        c.due("centre(6, 0)", x -> x.centre(6, 0), NONE, 32);
        c.due("linked(8, 4)", x -> one(x.linked(8, 4)), 1, 0);
        c.due("hereditary(6)", x -> one(x.hereditary(6)), 0, 1);
        c.due("step(6, 0)", x -> x.step(6, 0), NONE, 8 + 16 * 7);
        c.due("step(6, 3)", x -> x.step(6, 3), NONE, 5 + 16 * 4);
        c.due("obstruction(6)", x -> x.obstruction(6), 496, NONE);
        c.due("obstacle(6)", x -> x.obstacle(6), SplitForest.HOLE, NONE);
        c.due("apart(6)", x -> x.apart(6), NONE, 3);
        c.due("chosen(6)", x -> x.chosen(6), NONE, 336);
        c.due("cover(6)", x -> x.cover(6), NONE, 3);
    }

    private static void circleMadeEachObstacle() {
        Change house = new Change("circle made a house", PATH_AND_CIRCLE, "46");
        house.due("obstruction(8)", x -> x.obstruction(8), 496, 496);
        house.due("obstacle(8)", x -> x.obstacle(8), SplitForest.HOLE, SplitForest.HOUSE);
        Change gem = new Change("circle made a gem", PATH_AND_CIRCLE, "46 47");
        gem.due("obstruction(8)", x -> x.obstruction(8), 496, 496);
        gem.due("obstacle(8)", x -> x.obstacle(8), SplitForest.HOLE, SplitForest.GEM);
        Change domino = new Change("circle and path made a domino with a tail", PATH_AND_CIRCLE, "48 38 34 36");
        domino.due("obstruction(8)", x -> x.obstruction(8), 496, 504);
        domino.due("obstacle(8)", x -> x.obstacle(8), SplitForest.HOLE, SplitForest.DOMINO);
        domino.due("obstacle(0)", x -> x.obstacle(0), NONE, SplitForest.DOMINO);
    }

    private static void componentsMadeOneAndTwo() {
        Change bridge = new Change("bridge", PATH_AND_CIRCLE, "34");
        bridge.due("component(0)", x -> x.component(0), 15, 511);
        bridge.due("component(8)", x -> x.component(8), 496, 511);
        bridge.due("set(8, 0)", x -> x.set(8, 0), 496, 511);
        bridge.due("hereditary(0)", x -> one(x.hereditary(0)), 1, 0);
        bridge.due("obstruction(0)", x -> x.obstruction(0), NONE, 496);
        bridge.due("step(8, 0)", x -> x.step(8, 0), NONE, 16);
        bridge.due("cover(0)", x -> x.cover(0), 2, NONE);
        Change gap = new Change("gap", PATH_AND_CIRCLE, "12");
        gap.due("component(0)", x -> x.component(0), 15, 3);
        gap.due("component(3)", x -> x.component(3), 15, 12);
        gap.due("splits(3)", x -> x.splits(3), 1, 0);
        gap.due("set(3, 0)", x -> x.set(3, 0), 15, 12);
        gap.due("kind(3, 0)", x -> x.kind(3, 0), SplitForest.STAR, SplitForest.CLIQUE);
        gap.due("part(3, 0, 1)", x -> x.part(3, 0, 1), 2, 8);
        gap.due("linked(3, 2)", x -> one(x.linked(3, 2)), 1, 1);
        gap.due("linked(1, 2)", x -> one(x.linked(1, 2)), 1, 0);
        gap.due("step(3, 1)", x -> x.step(3, 1), 2 + 16, NONE);
        gap.due("apart(3)", x -> x.apart(3), 2, 1);
        gap.due("chosen(3)", x -> x.chosen(3), 5, 4);
        gap.due("cover(3)", x -> x.cover(3), 2, 1);
    }

    private static void otherComponentChanged() {
        Change c = new Change("other component changed", PATH_AND_CIRCLE, "48 46 57");
        c.due("component(3)", x -> x.component(3), 15, 15);
        c.due("splits(3)", x -> x.splits(3), 1, 1);
        c.due("set(3, 1)", x -> x.set(3, 1), 12, 12);
        c.due("kind(3, 1)", x -> x.kind(3, 1), SplitForest.STAR, SplitForest.STAR);
        c.due("part(3, 1, 2)", x -> x.part(3, 1, 2), 8, 8);
        c.due("linked(3, 2)", x -> one(x.linked(3, 2)), 1, 1);
        c.due("step(3, 1)", x -> x.step(3, 1), 2 + 16, 2 + 16);
        c.due("obstacle(3)", x -> x.obstacle(3), NONE, NONE);
        c.due("chosen(3)", x -> x.chosen(3), 5, 5);
        c.due("cover(3)", x -> x.cover(3), 2, 2);
    }

    /** A question that is asked at some vertex. */
    private interface Question {
        int at(SplitForest x, int v);
    }

    /** Asks at each of the vertices in turn, three rounds, with the answers in the same order. */
    private static void inTurn(String what, String edges, Question question, int[] vertices, int... want) {
        SplitForest x = graph(edges);
        for (int turn = 0; turn < 3 * vertices.length; turn++) {
            int v = vertices[turn % vertices.length];
            due("in turn, " + turn + ": " + what + " at " + v, question.at(x, v),
                    want[turn % vertices.length]);
        }
    }

    private static void onCircleAndStar(String what, Question question, int circle, int star) {
        inTurn(what, CIRCLE_AND_STAR, question, new int[] {0, 1, 4, 3, 8, 7, 0}, circle, star, circle, star,
                circle, star, circle);
        inTurn(what, CIRCLE_AND_STAR, question, new int[] {5, 6}, star, circle);
    }

    private static void twoComponentsInTurn() {
        onCircleAndStar("component", (x, v) -> x.component(v), 341, 170);
        onCircleAndStar("splits", (x, v) -> x.splits(v), 0, 3);
        onCircleAndStar("strong", (x, v) -> x.strong(v), 0, 0);
        onCircleAndStar("set 0", (x, v) -> x.set(v, 0), 341, 170);
        onCircleAndStar("set 1", (x, v) -> x.set(v, 1), NONE, NONE);
        onCircleAndStar("kind 0", (x, v) -> x.kind(v, 0), SplitForest.PRIME, SplitForest.STAR);
        onCircleAndStar("parts 0", (x, v) -> x.parts(v, 0), 5, 4);
        onCircleAndStar("part 0 2", (x, v) -> x.part(v, 0, 2), 16, 32);
        onCircleAndStar("part 0 4", (x, v) -> x.part(v, 0, 4), 256, NONE);
        onCircleAndStar("centre 0", (x, v) -> x.centre(v, 0), NONE, 8);
        onCircleAndStar("linked to itself", (x, v) -> one(x.linked(v, v)), 0, 0);
        onCircleAndStar("hereditary", (x, v) -> one(x.hereditary(v)), 0, 1);
        onCircleAndStar("step 0", (x, v) -> x.step(v, 0), NONE, 7 + 16 * 3);
        onCircleAndStar("step 2", (x, v) -> x.step(v, 2), NONE, 3 + 16);
        onCircleAndStar("obstruction", (x, v) -> x.obstruction(v), 341, NONE);
        onCircleAndStar("obstacle", (x, v) -> x.obstacle(v), SplitForest.HOLE, NONE);
        onCircleAndStar("apart", (x, v) -> x.apart(v), NONE, 3);
        onCircleAndStar("chosen", (x, v) -> x.chosen(v), NONE, 162);
        onCircleAndStar("cover", (x, v) -> x.cover(v), NONE, 3);
    }

    private static void onThree(String what, Question question, int complete, int path, int edge) {
        inTurn(what, THREE_COMPONENTS, question, new int[] {0, 1, 2, 3, 4, 5, 6, 7, 8}, complete, path, edge,
                complete, path, edge, complete, path, path);
    }

    private static void threeComponentsInTurn() {
        onThree("component", (x, v) -> x.component(v), 73, 402, 36);
        onThree("splits", (x, v) -> x.splits(v), 0, 1, 0);
        onThree("strong", (x, v) -> x.strong(v), 0, 1, 0);
        onThree("set 0", (x, v) -> x.set(v, 0), 73, 402, 36);
        onThree("set 1", (x, v) -> x.set(v, 1), NONE, 384, NONE);
        onThree("kind 0", (x, v) -> x.kind(v, 0), SplitForest.CLIQUE, SplitForest.STAR, SplitForest.CLIQUE);
        onThree("kind 1", (x, v) -> x.kind(v, 1), NONE, SplitForest.STAR, NONE);
        onThree("parts 0", (x, v) -> x.parts(v, 0), 3, 3, 2);
        onThree("part 0 2", (x, v) -> x.part(v, 0, 2), 64, 384, NONE);
        onThree("part 1 0", (x, v) -> x.part(v, 1, 0), NONE, 18, NONE);
        onThree("centre 0", (x, v) -> x.centre(v, 0), NONE, 16, NONE);
        onThree("centre 1", (x, v) -> x.centre(v, 1), NONE, 128, NONE);
        onThree("hereditary", (x, v) -> one(x.hereditary(v)), 1, 1, 1);
        onThree("step 0", (x, v) -> x.step(v, 0), 6 + 512, 8 + 16 * 7, 5 + 16 * 2);
        onThree("step 1", (x, v) -> x.step(v, 1), 3, 7 + 16 * 4, NONE);
        onThree("obstruction", (x, v) -> x.obstruction(v), NONE, NONE, NONE);
        onThree("apart", (x, v) -> x.apart(v), 1, 2, 1);
        onThree("chosen", (x, v) -> x.chosen(v), 1, 130, 4);
        onThree("cover", (x, v) -> x.cover(v), 1, 2, 1);
        inTurn("linked to 7", THREE_COMPONENTS, (x, v) -> one(x.linked(v, 7)),
                new int[] {0, 4, 2, 8, 6, 1, 7}, 0, 1, 0, 1, 0, 0, 0);
    }

    private static void onTwoOfOneSize(String what, Question question, int path, int circle, int alone) {
        inTurn(what, TWO_OF_ONE_SIZE, question, new int[] {0, 4, 3, 8, 7, 2}, path, circle, path, alone, circle,
                path);
    }

    private static void componentsOfOneSizeInTurn() {
        onTwoOfOneSize("component", (x, v) -> x.component(v), 15, 240, 256);
        onTwoOfOneSize("splits", (x, v) -> x.splits(v), 1, 1, 0);
        onTwoOfOneSize("set 0", (x, v) -> x.set(v, 0), 15, 240, 256);
        onTwoOfOneSize("set 1", (x, v) -> x.set(v, 1), 12, 160, NONE);
        onTwoOfOneSize("part 0 0", (x, v) -> x.part(v, 0, 0), 1, 16, 256);
        onTwoOfOneSize("part 0 2", (x, v) -> x.part(v, 0, 2), 12, 160, NONE);
        onTwoOfOneSize("centre 0", (x, v) -> x.centre(v, 0), 2, 160, NONE);
        onTwoOfOneSize("centre 1", (x, v) -> x.centre(v, 1), 4, 80, NONE);
        onTwoOfOneSize("step 0", (x, v) -> x.step(v, 0), 3 + 16 * 2, 7 + 16 * 5 + 256, NONE);
        onTwoOfOneSize("chosen", (x, v) -> x.chosen(v), 5, 80, 256);
        onTwoOfOneSize("cover", (x, v) -> x.cover(v), 2, 2, 1);
    }

    private static void refusedFlipsBetween() {
        SplitForest x = graph(PATH_AND_CIRCLE);
        int[][] refused = {{0, 0}, {8, 8}, {0, 9}, {9, 0}, {-1, 3}, {3, -1}, {32, 33}, {-32, 1}, {9, 9}};
        for (int[] pair : refused) {
            due("set(0, 1) before a refused flip", x.set(0, 1), 12);
            due("obstacle(4) before a refused flip", x.obstacle(4), SplitForest.HOLE);
            due("flip(" + pair[0] + ", " + pair[1] + ")", one(x.flip(pair[0], pair[1])), 0);
            due("set(0, 1) after a refused flip", x.set(0, 1), 12);
            due("obstacle(4) after a refused flip", x.obstacle(4), SplitForest.HOLE);
            due("component(0) after a refused flip", x.component(0), 15);
            due("step(0, 0) after a refused flip", x.step(0, 0), 35);
            due("chosen(0) after a refused flip", x.chosen(0), 5);
        }
    }

    private static void questionsChangeNothing() {
        SplitForest x = graph(PATH_AND_CIRCLE);
        for (int v = -1; v <= 9; v++) {
            x.splits(v);
            x.strong(v);
            x.set(v, 0);
            x.kind(v, 1);
            x.parts(v, 0);
            x.part(v, 0, 0);
            x.centre(v, 0);
            x.linked(v, 8 - v);
            x.hereditary(v);
            x.step(v, 0);
            x.obstruction(v);
            x.obstacle(v);
            x.apart(v);
            x.chosen(v);
            x.cover(v);
        }
        for (int a = 0; a < 9; a++) {
            for (int b = 0; b < a; b++) {
                boolean there = PATH_AND_CIRCLE.contains(a + "" + b) || PATH_AND_CIRCLE.contains(b + "" + a);
                due("neighbours(" + a + ", " + b + ") after questions", one(x.neighbours(a, b)), one(there));
            }
        }
    }

    private static void twoObjectsInTurn() {
        SplitForest first = graph(PATH_AND_CIRCLE);
        SplitForest second = graph(CIRCLE_AND_STAR);
        for (int turn = 0; turn < 3; turn++) {
            due("first object, component(0)", first.component(0), 15);
            due("second object, component(0)", second.component(0), 341);
            due("first object, splits(1)", first.splits(1), 1);
            due("second object, splits(1)", second.splits(1), 3);
            due("first object, part(1, 0, 2)", first.part(1, 0, 2), 12);
            due("second object, part(1, 0, 2)", second.part(1, 0, 2), 32);
            due("first object, step(1, 0)", first.step(1, 0), 35);
            due("second object, step(1, 0)", second.step(1, 0), 55);
            due("first object, cover(1)", first.cover(1), 2);
            due("second object, cover(1)", second.cover(1), 3);
        }
    }
}
