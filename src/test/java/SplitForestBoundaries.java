import java.util.Arrays;

/**
 * One method for each sentence of the document that names a boundary case. Each begins with the
 * words that it is about, and a wrong answer is printed with them.
 */
public final class SplitForestBoundaries {
    private static final int NONE = SplitForest.NONE;
    private static final int CALLS_OF_ONE_OBJECT = 512;
    /** No vertex of any graph; the lower five or four bits of some of them would be one. */
    private static final int[] NEVER_A_VERTEX = {-1, -2, -9, -31, -32, -256, 10, 16, 31, 32, 33, 40, 64,
        256, 1 << 16, 1 << 30, (1 << 30) + 1, Integer.MIN_VALUE, Integer.MIN_VALUE + 1, Integer.MAX_VALUE};
    private static String words = "";
    private static int wrong = 0;
    private static int sentences = 0;

    public static void main(String[] args) {
        whatItIs();
        termsOfGraph();
        termsOfSplits();
        termsOfTree();
        termsOfElimination();
        promisesOfGraph();
        promisesOfTree();
        promisesOfElimination();
        promisesOfChoice();
        System.out.println(wrong == 0 ? "all answers on " + sentences + " sentences are as due"
                : wrong + " answers are not as due");
        if (wrong != 0) {
            System.exit(1);
        }
    }

    private static void whatItIs() {
        check(SplitForestBoundaries::the512thCallStillAnswers);
        check(SplitForestBoundaries::laterCallsAreFreeButEnd);
    }

    private static void termsOfGraph() {
        check(SplitForestBoundaries::verticesFrom0ToNMinus1);
        check(SplitForestBoundaries::edgesBetweenTwoDifferentOnes);
        check(SplitForestBoundaries::edgesAtFirstNone);
        check(SplitForestBoundaries::setAsASum);
        check(SplitForestBoundaries::componentHasItself);
        check(SplitForestBoundaries::componentHasAllThatCanBeComeTo);
        check(SplitForestBoundaries::eachVertexTellsTheSame);
    }

    private static void termsOfSplits() {
        check(SplitForestBoundaries::splitWithoutTheLeast);
        check(SplitForestBoundaries::splitWithTwoAtLeast);
        check(SplitForestBoundaries::splitWithTwoAtLeastNotInIt);
        check(SplitForestBoundaries::splitAlongACompleteBond);
        check(SplitForestBoundaries::crossingHasAVertexInBoth);
        check(SplitForestBoundaries::crossingHasOneInTheOneAlone);
        check(SplitForestBoundaries::crossingHasOneInTheOtherAlone);
        check(SplitForestBoundaries::strongCrossesNoSplit);
        check(SplitForestBoundaries::strongByRisingSums);
    }

    private static void termsOfTree() {
        check(SplitForestBoundaries::node0StandsForC);
        check(SplitForestBoundaries::partIsNotTheSetItself);
        check(SplitForestBoundaries::partIsInsideOfNoOther);
        check(SplitForestBoundaries::partOfAVertexAlone);
        check(SplitForestBoundaries::outsideForNodes1AndOn);
        check(SplitForestBoundaries::partsByRisingSums);
        check(SplitForestBoundaries::joinedByOneEdge);
        check(SplitForestBoundaries::cliqueOfOnePartAndOfTwo);
        check(SplitForestBoundaries::cliqueMissesNoPair);
        check(SplitForestBoundaries::starOfThreePartsAndOfNine);
        check(SplitForestBoundaries::starHasNoTwoOthersJoined);
        check(SplitForestBoundaries::elsePrime);
    }

    private static void termsOfElimination() {
        check(SplitForestBoundaries::asLongAsThereAreTwo);
        check(SplitForestBoundaries::theGreatestVertex);
        check(SplitForestBoundaries::leafWithJustOneNeighbour);
        check(SplitForestBoundaries::leafAmongThoseThatAreThere);
        check(SplitForestBoundaries::twinBesidesOneAnother);
        check(SplitForestBoundaries::twinAmongThoseThatAreThere);
        check(SplitForestBoundaries::partnerOfALeafThatIsATwin);
        check(SplitForestBoundaries::partnerIsTheLeast);
        check(SplitForestBoundaries::endsWhenOneIsLeft);
        check(SplitForestBoundaries::endsWhenThereIsNoSuchX);
        check(SplitForestBoundaries::setWithSeveralComponents);
        check(SplitForestBoundaries::setByTheEdgesInside);
    }

    private static void promisesOfGraph() {
        check(SplitForestBoundaries::newObjectFrom1To9);
        check(SplitForestBoundaries::newObjectElse7);
        check(SplitForestBoundaries::flipThereAndGone);
        check(SplitForestBoundaries::flipOfNoVertex);
        check(SplitForestBoundaries::flipOfTheSame);
        check(SplitForestBoundaries::neighboursOfNoVertex);
        check(SplitForestBoundaries::componentOfNoVertex);
        check(SplitForestBoundaries::noVertexBelowComponent);
    }

    private static void promisesOfTree() {
        check(SplitForestBoundaries::fewestAndMostSplits);
        check(SplitForestBoundaries::fewestAndMostStrong);
        check(SplitForestBoundaries::setOfNoNode);
        check(SplitForestBoundaries::kindOfNoNode);
        check(SplitForestBoundaries::partsOfNoNode);
        check(SplitForestBoundaries::partOfNoNode);
        check(SplitForestBoundaries::partThatIsNone);
        check(SplitForestBoundaries::centreOfNoStar);
        check(SplitForestBoundaries::centreOfNoNode);
        check(SplitForestBoundaries::linkedNeedsTwo);
        check(SplitForestBoundaries::linkedNeedsOneComponent);
        check(SplitForestBoundaries::linkedOfNoVertex);
        check(SplitForestBoundaries::linkedInEveryNode);
        check(SplitForestBoundaries::linkedWithBothOutside);
    }

    private static void promisesOfElimination() {
        check(SplitForestBoundaries::hereditaryOfTheComponentAlone);
        check(SplitForestBoundaries::stepFrom0);
        check(SplitForestBoundaries::stepOfEachForm);
        check(SplitForestBoundaries::stepThatIsNone);
        check(SplitForestBoundaries::obstructionElseNone);
        check(SplitForestBoundaries::obstructionOfTheWholeComponent);
        check(SplitForestBoundaries::obstructionByRisingNumbers);
        check(SplitForestBoundaries::holeOfEachSize);
        check(SplitForestBoundaries::houseGemAndDomino);
        check(SplitForestBoundaries::obstacleNone);
        check(SplitForestBoundaries::noOtherObstacle);
    }

    private static void promisesOfChoice() {
        check(SplitForestBoundaries::apartFewestAndMost);
        check(SplitForestBoundaries::apartOfNotHereditary);
        check(SplitForestBoundaries::chosenIsTheLeast);
        check(SplitForestBoundaries::chosenOfNotHereditary);
        check(SplitForestBoundaries::coverFewestAndMost);
        check(SplitForestBoundaries::coverOfNotHereditary);
    }

    /** An exception is a wrong answer of its sentence and must not hide the sentences after it. */
    private static void check(Runnable test) {
        try {
            test.run();
        } catch (RuntimeException thrown) {
            wrong++;
            System.out.println(words + "threw " + thrown);
        }
    }

    private static void sentence(String where, String quoted) {
        words = where + ", \"" + quoted + "\": ";
        sentences++;
    }

    private static void due(String what, long got, long want) {
        if (got != want) {
            wrong++;
            System.out.println(words + what + " answered " + got + ", due is " + want);
        }
    }

    private static void due(String what, boolean got, boolean want) {
        due(what, got ? 1 : 0, want ? 1 : 0);
    }

    /** The graph with the edges that are told as pairs of digits, such as "01 12". */
    private static SplitForest graph(int n, String edges) {
        SplitForest made = new SplitForest(n);
        for (String edge : edges.split(" ")) {
            made.flip(edge.charAt(0) - '0', edge.charAt(1) - '0');
        }
        return made;
    }

    private static SplitForest complete(int n) {
        SplitForest made = new SplitForest(n);
        for (int a = 0; a < n; a++) {
            for (int b = 0; b < a; b++) {
                made.flip(a, b);
            }
        }
        return made;
    }

    private static SplitForest star(int n, int centre) {
        SplitForest made = new SplitForest(n);
        for (int a = 0; a < n; a++) {
            made.flip(a, centre);
        }
        return made;
    }

    private static SplitForest path(int n) {
        SplitForest made = new SplitForest(n);
        for (int a = 1; a < n; a++) {
            made.flip(a - 1, a);
        }
        return made;
    }

    private static SplitForest circle(int n) {
        SplitForest made = path(n);
        made.flip(n - 1, 0);
        return made;
    }

    private static SplitForest house() {
        return graph(5, "01 12 23 34 40 02");
    }

    private static SplitForest gem() {
        return graph(5, "01 12 23 40 41 42 43");
    }

    private static SplitForest domino() {
        return graph(6, "01 12 23 34 45 50 03");
    }

    /** The complete graph without the edge between 3 and 4. */
    private static SplitForest completeButOne(int n) {
        SplitForest made = complete(n);
        made.flip(3, 4);
        return made;
    }

    private static SplitForest[] notHereditary() {
        return new SplitForest[] {circle(5), circle(6), circle(9), house(), gem(), domino(),
            graph(9, "01 12 23 34 40 45 56 67 78")};
    }

    /** What is no vertex of a graph with n of them, n itself among it. */
    private static int[] noVerticesOf(int n) {
        int[] some = Arrays.copyOf(NEVER_A_VERTEX, NEVER_A_VERTEX.length + 2);
        some[some.length - 1] = n;
        some[some.length - 2] = n + 1;
        return some;
    }

    private static void dueSets(String what, SplitForest x, int v, int... want) {
        due(what + ", strong", x.strong(v), want.length - 1);
        for (int k = 0; k < want.length; k++) {
            due(what + ", set " + k, x.set(v, k), want[k]);
        }
        due(what + ", set " + want.length, x.set(v, want.length), NONE);
    }

    private static void dueParts(String what, SplitForest x, int v, int k, int... want) {
        due(what + ", parts of " + k, x.parts(v, k), want.length);
        for (int i = 0; i < want.length; i++) {
            due(what + ", part " + i + " of " + k, x.part(v, k, i), want[i]);
        }
        due(what + ", part " + want.length + " of " + k, x.part(v, k, want.length), NONE);
    }

    private static void dueSteps(String what, SplitForest x, int v, int... want) {
        for (int k = 0; k < want.length; k++) {
            due(what + ", step " + k, x.step(v, k), want[k]);
        }
        due(what + ", step " + want.length, x.step(v, want.length), NONE);
    }

    // What it is

    private static void the512thCallStillAnswers() {
        sentence("What it is", "An object is used for at most 512 calls after it has been made");
        SplitForest x = new SplitForest(9);
        for (int call = 1; call <= CALLS_OF_ONE_OBJECT; call++) {
            due("flip as call " + call, x.flip(0, 8), call % 2 == 1);
        }
        for (int last = 0; last < 6; last++) {
            SplitForest y = new SplitForest(9);
            for (int call = 1; call < CALLS_OF_ONE_OBJECT; call++) {
                int a = Math.min(call - 1, 7);
                y.flip(a, a + 1);
            }
            lastCall(y, last);
        }
    }

    /** After 511 flips the path from 0 to 7 is there; its seven took one each, 7 - 8 the other 504. */
    private static void lastCall(SplitForest x, int which) {
        switch (which) {
            case 0 -> due("component as the last call", x.component(0), 255);
            case 1 -> due("strong as the last call", x.strong(7), 5);
            case 2 -> due("set as the last call", x.set(0, 5), 252);
            case 3 -> due("step as the last call", x.step(0, 6), 1);
            case 4 -> due("cover as the last call", x.cover(0), 4);
            default -> due("flip as the last call", x.flip(7, 8), true);
        }
    }

    private static void laterCallsAreFreeButEnd() {
        sentence("What it is", "what later calls answer is free");
        SplitForest x = complete(9);
        for (int call = 0; call < 2 * CALLS_OF_ONE_OBJECT; call++) {
            x.flip(call % 9, (call + 1) % 9);
            x.part(call % 9, call % 5, call % 10);
            x.obstacle(call % 9);
            x.cover(call % 9);
        }
    }

    // Terms: the graph

    private static void verticesFrom0ToNMinus1() {
        sentence("Terms", "THE GRAPH has vertices 0 .. n - 1");
        for (int n = 1; n <= 9; n++) {
            SplitForest x = new SplitForest(n);
            due(n + ": first", x.component(0), 1);
            due(n + ": last", x.component(n - 1), 1 << (n - 1));
            due(n + ": before the first", x.component(-1), 0);
            due(n + ": after the last", x.component(n), 0);
        }
    }

    private static void edgesBetweenTwoDifferentOnes() {
        sentence("Terms", "EDGES, each between two different ones");
        SplitForest x = complete(9);
        for (int a = 0; a < 9; a++) {
            due("neighbours(" + a + ", itself)", x.neighbours(a, a), false);
            due("flip(" + a + ", itself)", x.flip(a, a), false);
            due("neighbours(" + a + ", itself) after it", x.neighbours(a, a), false);
        }
    }

    private static void edgesAtFirstNone() {
        sentence("Terms", "at first none");
        for (int n : new int[] {1, 2, 8, 9, 0, 10}) {
            SplitForest x = new SplitForest(n);
            for (int a = 0; a < 10; a++) {
                for (int b = 0; b < 10; b++) {
                    due("new " + n + ": neighbours", x.neighbours(a, b), false);
                }
            }
        }
    }

    private static void setAsASum() {
        sentence("Terms", "A SET of vertices is written as the sum of 2^v.");
        due("the least", new SplitForest(9).component(0), 1);
        due("the last alone", new SplitForest(9).component(8), 256);
        due("the first and the last", graph(9, "08").component(8), 257);
        due("all nine", path(9).component(4), 511);
    }

    private static void componentHasItself() {
        sentence("Terms", "The COMPONENT C of a vertex has it");
        for (int v = 0; v < 9; v++) {
            due("alone, " + v, new SplitForest(9).component(v), 1 << v);
        }
        SplitForest x = star(9, 4);
        for (int v = 0; v < 9; v++) {
            x.flip(4, v);
        }
        due("alone again", x.component(4), 16);
    }

    private static void componentHasAllThatCanBeComeTo() {
        sentence("Terms", "and all that can be come to along edges");
        SplitForest x = graph(9, "80 07 71 16 62 25 53 34");
        due("the far end of a path to and fro", x.component(8), 511);
        due("its other end", x.component(4), 511);
        x.flip(6, 2);
        due("its one half", x.component(8), 256 + 1 + 128 + 2 + 64);
        due("its other half", x.component(4), 16 + 8 + 32 + 4);
    }

    private static void eachVertexTellsTheSame() {
        sentence("Terms", "each vertex of it tells the same");
        SplitForest x = graph(9, "02 24 46 60 13 35 57 78");
        for (int v : new int[] {0, 2, 4, 6}) {
            due(v + ": component", x.component(v), 85);
            dueSets(v + "", x, v, 85, 68);
            due(v + ": chosen", x.chosen(v), 17);
            due(v + ": step 0", x.step(v, 0), 6 + 16 * 2 + 256);
        }
        for (int v : new int[] {1, 3, 5, 7, 8}) {
            due(v + ": component", x.component(v), 426);
            dueSets(v + "", x, v, 426, 384, 416);
            due(v + ": chosen", x.chosen(v), 2 + 32 + 256);
            due(v + ": step 0", x.step(v, 0), 8 + 16 * 7);
        }
    }

    // Terms: splits

    private static void splitWithoutTheLeast() {
        sentence("Terms", "without the least vertex of C");
        due("C4: {1, 3} and not {0, 2}", circle(4).splits(0), 1);
        due("C4: which", circle(4).set(0, 1), 10);
        SplitForest late = graph(9, "56 67 78 85");
        due("C4 of 5 to 8", late.splits(8), 1);
        due("C4 of 5 to 8: which", late.set(8, 1), 64 + 256);
        due("K9", complete(9).splits(0), 246);
    }

    private static void splitWithTwoAtLeast() {
        sentence("Terms", "with two vertices at least");
        due("P4: {2, 3} and none of one", path(4).splits(0), 1);
        due("the least has two", path(4).set(0, 1), 12);
        due("K1,3: three of two", star(4, 0).splits(0), 3);
        due("P3", path(3).splits(0), 0);
        due("C5: none of one", circle(5).strong(0), 0);
    }

    private static void splitWithTwoAtLeastNotInIt() {
        sentence("Terms", "and such that two at least of C are not in it");
        due("P4: not {1, 2, 3}", path(4).set(0, 2), NONE);
        due("K4: not {1, 2, 3}", complete(4).splits(3), 3);
        due("an edge: not {1}", graph(2, "01").splits(0), 0);
        due("C5: not all but 0", circle(5).set(0, 1), NONE);
        dueSets("P5: up to all but two", path(5), 0, 31, 24, 28);
    }

    private static void splitAlongACompleteBond() {
        sentence("Terms", "if a and b in S and c and d of C not in S are such that a has the neighbour c and"
                + " b has the neighbour d, then a has the neighbour d");
        SplitForest x = graph(4, "02 03 12");
        dueSets("the bond of {2, 3} misses one edge", x, 0, 15, 6);
        x.flip(1, 3);
        dueSets("the bond of {2, 3} misses none", x, 0, 15, 12);
        dueSets("3 of {2, 3} has no neighbour outside", path(4), 0, 15, 12);
        due("C5", circle(5).splits(0), 0);
        due("C9", circle(9).splits(0), 0);
        due("the domino", domino().splits(0), 0);
    }

    private static void crossingHasAVertexInBoth() {
        sentence("Terms", "Two splits CROSS if some vertex is in both");
        dueSets("{1, 2} and {3, 4} have none", graph(5, "21 10 03 34"), 0, 31, 6, 24);
        dueSets("three far from one another", graph(7, "01 12 03 34 05 56"), 0, 127, 6, 24, 96);
        due("{1, 2} and {2, 3} have one", complete(4).strong(0), 0);
    }

    private static void crossingHasOneInTheOneAlone() {
        sentence("Terms", "some in the one alone");
        dueSets("{3, 4} in {2, 3, 4}", path(5), 0, 31, 24, 28);
        dueSets("one alone does not cross itself", path(4), 0, 15, 12);
    }

    private static void crossingHasOneInTheOtherAlone() {
        sentence("Terms", "some in the other alone");
        dueSets("P9: each in the next", path(9), 0, 511, 384, 448, 480, 496, 504, 508);
        dueSets("{1, 2, 3} has {1, 2}, told before", graph(5, "40 03 32 21"), 0, 31, 6, 14);
    }

    private static void strongCrossesNoSplit() {
        sentence("Terms", "A split is STRONG if it crosses no split.");
        for (int n = 4; n <= 9; n++) {
            due("K" + n, complete(n).strong(0), 0);
            due("a star of " + n, star(n, n - 1).strong(0), 0);
        }
        due("K7 but one edge, splits", completeButOne(7).splits(0), 26);
        dueSets("K7 but one edge", completeButOne(7), 0, 127, 24);
    }

    private static void strongByRisingSums() {
        sentence("Terms", "Strong splits are counted 1, 2, .. by rising sums.");
        dueSets("the small {5, 6} is the last", graph(7, "43 32 21 10 05 56"), 0, 127, 24, 28, 30, 96);
        dueSets("P9 from its other end", graph(9, "87 76 65 54 43 32 21 10"), 8,
                511, 384, 448, 480, 496, 504, 508);
        dueSets("0 at the far end of twos", graph(8, "13 32 20 04 46 65 57"), 0, 255, 10, 14, 160, 224, 240);
    }

    // Terms: the tree

    private static void node0StandsForC() {
        sentence("Terms", "THE TREE has the NODE 0, which stands for C");
        for (int v = 0; v < 9; v++) {
            dueSets("alone", new SplitForest(9), v, 1 << v);
        }
        dueSets("an edge", graph(9, "38"), 8, 264);
        dueSets("no split", circle(9), 0, 511);
        dueSets("no strong split", complete(9), 0, 511);
    }

    private static void partIsNotTheSetItself() {
        sentence("Terms", "each strong split that is inside of its set, is not its set");
        dueParts("P4", path(4), 0, 1, 3, 4, 8);
        dueParts("P5", path(5), 0, 2, 3, 4, 24);
        dueParts("K7 but one edge", completeButOne(7), 0, 1, 8, 16, 103);
    }

    private static void partIsInsideOfNoOther() {
        sentence("Terms", "and is inside of no other such one");
        dueParts("P9", path(9), 0, 0, 1, 2, 508);
        dueParts("P9", path(9), 0, 6, 3, 4, 504);
        SplitForest nested = graph(5, "04 43 32 21");
        dueParts("{1, 2} in {1, 2, 3}", nested, 0, 0, 1, 14, 16);
        dueParts("{1, 2} in {1, 2, 3}", nested, 0, 2, 6, 8, 17);
        dueParts("three arms of two", graph(7, "01 12 03 34 05 56"), 0, 0, 1, 6, 24, 96);
    }

    private static void partOfAVertexAlone() {
        sentence("Terms", "each vertex of its set, alone, that is in none of these");
        dueParts("K9", complete(9), 0, 0, 1, 2, 4, 8, 16, 32, 64, 128, 256);
        dueParts("C4", circle(4), 0, 0, 1, 4, 10);
        dueParts("all but one in strong splits", graph(7, "01 12 03 34 05 56"), 0, 0, 1, 6, 24, 96);
    }

    private static void outsideForNodes1AndOn() {
        sentence("Terms", "for nodes 1, 2, .., the OUTSIDE, which is C without its set");
        dueParts("one: node 0 has none", new SplitForest(1), 0, 0, 1);
        dueParts("P4: node 0 has none", path(4), 0, 0, 1, 2, 12);
        dueParts("P4: node 1", path(4), 0, 1, 3, 4, 8);
        SplitForest beside = graph(9, "34 45 56 01 12");
        dueParts("of C and not of all", beside, 3, 1, 8 + 16, 32, 64);
        dueParts("no outside in node 0 beside others", beside, 3, 0, 8, 16, 96);
    }

    private static void partsByRisingSums() {
        sentence("Terms", "They are counted 0, 1, .. by rising sums of their sets.");
        dueParts("P5: the outside first", path(5), 0, 1, 7, 8, 16);
        dueParts("C4: the outside between", circle(4), 0, 1, 2, 5, 8);
        dueParts("K7 but one edge: the outside last", completeButOne(7), 0, 1, 8, 16, 103);
        dueParts("K7 but one edge: a split between", completeButOne(7), 0, 0, 1, 2, 4, 24, 32, 64);
        dueParts("a split with the last and a lesser", graph(4, "01 12 23 30"), 3, 0, 1, 4, 10);
    }

    private static void joinedByOneEdge() {
        sentence("Terms", "Two parts are JOINED if there is an edge between them.");
        due("P9: one edge to a part of seven", path(9).centre(0, 0), 2);
        due("P9: none from 0 to it", path(9).kind(0, 0), SplitForest.STAR);
        due("two triangles by one edge", graph(6, "01 12 20 23 34 45 53").splits(0), 3);
        due("two triangles, the bridge", graph(6, "01 12 20 23 34 45 53").centre(0, 2), 8);
    }

    private static void cliqueOfOnePartAndOfTwo() {
        sentence("Terms", "The KIND of a node is CLIQUE if all its parts are joined to one another");
        due("one part", new SplitForest(9).kind(8, 0), SplitForest.CLIQUE);
        due("two parts", graph(9, "78").kind(8, 0), SplitForest.CLIQUE);
        due("three parts", complete(3).kind(0, 0), SplitForest.CLIQUE);
        due("nine parts", complete(9).kind(0, 0), SplitForest.CLIQUE);
    }

    private static void cliqueMissesNoPair() {
        sentence("Terms", "all its parts are joined to one another");
        SplitForest x = complete(3);
        x.flip(0, 2);
        due("three parts, one pair missing", x.kind(0, 0), SplitForest.STAR);
        SplitForest diamond = graph(4, "01 02 12 13 23");
        due("the diamond, node 0", diamond.kind(0, 0), SplitForest.STAR);
        due("the diamond, node 1", diamond.kind(0, 1), SplitForest.CLIQUE);
    }

    private static void starOfThreePartsAndOfNine() {
        sentence("Terms", "else STAR if one of its parts, the CENTRE, is joined to all others");
        due("two parts are no star", graph(2, "01").kind(0, 0), SplitForest.CLIQUE);
        due("three parts", path(3).kind(0, 0), SplitForest.STAR);
        for (int centre = 0; centre < 9; centre++) {
            due("nine parts", star(9, centre).kind(0, 0), SplitForest.STAR);
            due("nine parts, the centre", star(9, centre).centre(0, 0), 1 << centre);
        }
    }

    private static void starHasNoTwoOthersJoined() {
        sentence("Terms", "and no two others are joined");
        due("the gem: 4 is joined to all", gem().kind(0, 0), SplitForest.PRIME);
        due("a wheel of six", graph(6, "01 12 23 34 40 50 51 52 53 54").kind(0, 0), SplitForest.PRIME);
    }

    private static void elsePrime() {
        sentence("Terms", "else PRIME");
        for (int n = 5; n <= 9; n++) {
            due("C" + n, circle(n).kind(0, 0), SplitForest.PRIME);
        }
        due("the house", house().kind(0, 0), SplitForest.PRIME);
        due("the domino", domino().kind(0, 0), SplitForest.PRIME);
        SplitForest tail = graph(7, "01 12 23 34 40 45 56");
        due("C5 with a tail, node 0", tail.kind(0, 0), SplitForest.PRIME);
        due("C5 with a tail, node 1", tail.kind(0, 1), SplitForest.STAR);
    }

    // Terms: elimination

    private static void asLongAsThereAreTwo() {
        sentence("Terms", "as long as there are two at least");
        dueSteps("one", new SplitForest(1), 0);
        dueSteps("one of nine", new SplitForest(9), 8);
        dueSteps("two", graph(9, "78"), 8, 8 + 16 * 7);
        dueSteps("three", path(3), 0, 2 + 16, 1);
    }

    private static void theGreatestVertex() {
        sentence("Terms", "the greatest vertex x there that is a LEAF");
        dueSteps("P4: 3 and not 0", path(4), 0, 3 + 16 * 2, 2 + 16, 1);
        dueSteps("P4 with its ends 0 and 1", graph(4, "02 23 31"), 0, 1 + 16 * 3, 3 + 16 * 2, 2);
        dueSteps("a twin that is greater than a leaf", graph(5, "12 23 34 41 03"), 0,
                4 + 16 * 2 + 256, 1 + 16 * 2, 2 + 16 * 3, 3);
    }

    private static void leafWithJustOneNeighbour() {
        sentence("Terms", "with just one neighbour that is there");
        dueSteps("C5: each has two", circle(5), 0);
        dueSteps("two: one neighbour", graph(2, "01"), 0, 1);
        dueSteps("one: no neighbour", new SplitForest(3), 2);
    }

    private static void leafAmongThoseThatAreThere() {
        sentence("Terms", "(with just one neighbour that is there)");
        dueSteps("C5 with a tail of two: 5 is a leaf without 6", graph(7, "01 12 23 34 40 45 56"), 0,
                6 + 16 * 5, 5 + 16 * 4);
        dueSteps("P9", path(9), 0, 8 + 16 * 7, 7 + 16 * 6, 6 + 16 * 5, 5 + 16 * 4, 4 + 16 * 3,
                3 + 16 * 2, 2 + 16, 1);
    }

    private static void twinBesidesOneAnother() {
        sentence("Terms", "x and y have the same neighbours besides one another");
        dueSteps("K4: neighbours", complete(4), 0, 3 + 512, 2 + 512, 1);
        dueSteps("C4: no neighbours", circle(4), 0, 3 + 16 + 256, 2 + 16, 1);
        dueSteps("C6: almost", circle(6), 0);
    }

    private static void twinAmongThoseThatAreThere() {
        sentence("Terms", "among those that are there");
        dueSteps("C4 with a leaf at 1", graph(5, "01 12 23 30 14"), 0, 4 + 16, 3 + 16 + 256, 2 + 16, 1);
        dueSteps("C4 with a leaf at 3, the twin of 1 then", graph(6, "01 12 23 30 35 54"), 0,
                4 + 16 * 5, 5 + 16 * 3, 3 + 16 + 256, 2 + 16, 1);
    }

    private static void partnerOfALeafThatIsATwin() {
        sentence("Terms", "its PARTNER being this neighbour, if it is a leaf");
        dueSteps("a star: leaves are twins too", star(4, 0), 0, 3, 2, 1);
        dueSteps("a star around its last", star(4, 3), 0, 2 + 16 * 3, 1 + 16 * 3, 3);
        dueSteps("two: twins too", graph(2, "01"), 0, 1);
    }

    private static void partnerIsTheLeast() {
        sentence("Terms", "else the least such y");
        dueSteps("K2,3: 2 and 3 are twins of 4", graph(5, "02 03 04 12 13 14"), 0,
                4 + 16 * 2 + 256, 3 + 16 * 2 + 256, 1 + 16 * 2, 2);
        due("K9: all are twins", complete(9).step(0, 0), 8 + 512);
    }

    private static void endsWhenOneIsLeft() {
        sentence("Terms", "It ends when one is left, and C is HEREDITARY then");
        for (int n = 1; n <= 9; n++) {
            SplitForest x = complete(n);
            due("K" + n, x.hereditary(0), true);
            if (n > 1) {
                due("K" + n + ", the last step", x.step(0, n - 2), 1);
            }
            due("K" + n + ", after the last step", x.step(0, n - 1), NONE);
            due("K" + n + ", later", x.step(0, n), NONE);
        }
    }

    private static void endsWhenThereIsNoSuchX() {
        sentence("Terms", "or when there is no such x");
        dueSteps("C5: at once", circle(5), 0);
        due("C5", circle(5).hereditary(0), false);
        SplitForest tail = graph(9, "01 12 23 34 40 45 56 67 78");
        dueSteps("C5 with a tail: then", tail, 0, 8 + 16 * 7, 7 + 16 * 6, 6 + 16 * 5, 5 + 16 * 4);
        due("C5 with a tail", tail.hereditary(8), false);
    }

    private static void setWithSeveralComponents() {
        sentence("Terms", "A set of vertices is hereditary if each component of it is");
        due("without 0: {1}, then a C5", graph(7, "01 02 23 34 45 56 62").obstruction(0), 124);
        due("without 0: a C5, then {6}", graph(7, "01 06 12 23 34 45 51").obstruction(0), 62);
        due("without 0: {1}, a C5, {7}", graph(8, "01 02 07 23 34 45 56 62").obstruction(0), 124);
    }

    private static void setByTheEdgesInside() {
        sentence("Terms", "(by the edges inside of it alone)");
        due("C5 through 0, without it a path", circle(5).obstruction(0), 31);
        due("C5 with 0 on all", graph(6, "01 02 03 04 05 12 23 34 45 51").obstruction(0), 62);
    }

    // Promises 1 to 5

    private static void newObjectFrom1To9() {
        sentence("Promise 1", "n is vertices");
        for (int n = 1; n <= 9; n++) {
            due("new " + n, new SplitForest(n).vertices(), n);
            due("new " + n + ", all joined", complete(n).component(n - 1), (1 << n) - 1);
        }
    }

    private static void newObjectElse7() {
        sentence("Promise 1", "or 7 if that is not 1 .. 9");
        for (int n : new int[] {0, 10, -1, -7, -9, 11, 16, 32, 33, 39, 257, Integer.MIN_VALUE,
            Integer.MIN_VALUE + 1, Integer.MAX_VALUE}) {
            SplitForest x = new SplitForest(n);
            due("new " + n, x.vertices(), 7);
            due("new " + n + ", an edge to the last", x.flip(0, 6), true);
            due("new " + n + ", an edge beyond it", x.flip(0, 7), false);
            due("new " + n + ", the component", x.component(6), 65);
        }
    }

    private static void flipThereAndGone() {
        sentence("Promise 3", "The edge between a and b is there now if it was not, and is not if it was:"
                + " whether it is.");
        SplitForest x = new SplitForest(9);
        due("flip(8, 0)", x.flip(8, 0), true);
        due("from the other end", x.neighbours(0, 8), true);
        due("flip(0, 8)", x.flip(0, 8), false);
        due("gone at both ends", x.neighbours(0, 8) || x.neighbours(8, 0), false);
        SplitForest full = complete(9);
        due("full, flip(7, 8)", full.flip(7, 8), false);
        due("full, flip(8, 7)", full.flip(8, 7), true);
        due("full, its splits", full.splits(0), 246);
    }

    /** What a refused call must leave as it is, the tree that was looked at before too. */
    private static void dueP5(String what, SplitForest x) {
        due(what + ", component", x.component(0), 31);
        due(what + ", vertices", x.vertices(), 6);
        due(what + ", beside", x.component(5), 32);
        dueSets(what, x, 0, 31, 24, 28);
        due(what + ", steps", x.step(0, 0), 4 + 16 * 3);
        due(what + ", chosen", x.chosen(4), 21);
    }

    private static void flipOfNoVertex() {
        sentence("Promise 3", "False, changing nothing, when one of them is no vertex");
        for (int w : noVerticesOf(6)) {
            SplitForest x = graph(6, "01 12 23 34");
            dueP5("before", x);
            due("flip(0, " + w + ")", x.flip(0, w), false);
            due("flip(" + w + ", 5)", x.flip(w, 5), false);
            due("flip(" + w + ", itself)", x.flip(w, w), false);
            dueP5("after " + w, x);
        }
    }

    private static void flipOfTheSame() {
        sentence("Promise 3", "or they are the same");
        SplitForest x = graph(6, "01 12 23 34");
        for (int a = 0; a < 6; a++) {
            dueP5("before", x);
            due("flip(" + a + ", itself)", x.flip(a, a), false);
            dueP5("after " + a, x);
        }
        SplitForest one = new SplitForest(1);
        due("one: flip(0, 0)", one.flip(0, 0), false);
        due("one: component", one.component(0), 1);
        due("one: hereditary", one.hereditary(0), true);
    }

    private static void neighboursOfNoVertex() {
        sentence("Promise 4", "false when one is no vertex");
        for (int n = 1; n <= 9; n++) {
            SplitForest x = complete(n);
            for (int w : noVerticesOf(n)) {
                due(n + ": neighbours(0, " + w + ")", x.neighbours(0, w), false);
                due(n + ": neighbours(" + w + ", 0)", x.neighbours(w, 0), false);
                due(n + ": neighbours(" + w + ", itself)", x.neighbours(w, w), false);
            }
        }
    }

    private static void componentOfNoVertex() {
        sentence("Promise 5", "0 when it is no vertex.");
        for (int n = 1; n <= 9; n++) {
            SplitForest x = complete(n);
            for (int v : noVerticesOf(n)) {
                due(n + ": component(" + v + ")", x.component(v), 0);
            }
        }
    }

    private static void noVertexBelowComponent() {
        sentence("Promise 5", "(All methods below answer NONE, or false, when v is no vertex.)");
        for (int n = 1; n <= 9; n++) {
            for (int v : noVerticesOf(n)) {
                allBelow(complete(n), v, n + " joined: (" + v + ", ..)");
                allBelow(path(n), v, n + " in a path: (" + v + ", ..)");
            }
        }
        for (SplitForest x : notHereditary()) {
            allBelow(x, x.vertices(), "not hereditary: (" + x.vertices() + ", ..)");
        }
    }

    private static void allBelow(SplitForest x, int v, String at) {
        due("splits" + at, x.splits(v), NONE);
        due("strong" + at, x.strong(v), NONE);
        due("linked" + at, x.linked(v, 0), false);
        due("hereditary" + at, x.hereditary(v), false);
        due("obstruction" + at, x.obstruction(v), NONE);
        due("obstacle" + at, x.obstacle(v), NONE);
        due("apart" + at, x.apart(v), NONE);
        due("chosen" + at, x.chosen(v), NONE);
        due("cover" + at, x.cover(v), NONE);
        for (int k = 0; k < 2; k++) {
            due("set" + at, x.set(v, k), NONE);
            due("kind" + at, x.kind(v, k), NONE);
            due("parts" + at, x.parts(v, k), NONE);
            due("part" + at, x.part(v, k, 0), NONE);
            due("centre" + at, x.centre(v, k), NONE);
            due("step" + at, x.step(v, k), NONE);
        }
    }

    // Promises 6 to 13

    private static void fewestAndMostSplits() {
        sentence("Promise 6", "How many splits there are.");
        due("of one", new SplitForest(9).splits(8), 0);
        for (int n = 1; n <= 3; n++) {
            due("of " + n + " joined", complete(n).splits(0), 0);
            due("of " + n + " in a path", path(n).splits(0), 0);
        }
        for (int n = 4; n <= 9; n++) {
            due("of " + n + " joined", complete(n).splits(0), (1 << (n - 1)) - n - 1);
            due("of " + n + " in a path", path(n).splits(0), n - 3);
        }
        due("of nine in a circle", circle(9).splits(0), 0);
    }

    private static void fewestAndMostStrong() {
        sentence("Promise 7", "How many strong splits.");
        due("of one", new SplitForest(9).strong(8), 0);
        for (int n = 1; n <= 9; n++) {
            due("of " + n + " joined", complete(n).strong(0), 0);
            due("of " + n + " in a path", path(n).strong(0), Math.max(0, n - 3));
        }
    }

    /** No node of a tree with this many nodes; some of them would be one if bits were lost. */
    private static int[] noNodesOf(int nodes) {
        return new int[] {nodes, nodes + 1, -1, -nodes, 8, 9, 16, 32, 255, 256, 257, 511, 512, 1 << 16,
            Integer.MIN_VALUE, Integer.MIN_VALUE + 1, Integer.MAX_VALUE};
    }

    private static SplitForest[] someGraphs() {
        return new SplitForest[] {new SplitForest(1), graph(2, "01"), path(4), path(9), complete(9),
            circle(4), circle(9), completeButOne(7), star(9, 0)};
    }

    private static void setOfNoNode() {
        sentence("Promise 8", "NONE when there is none.");
        for (SplitForest x : someGraphs()) {
            int nodes = x.strong(0) + 1;
            due("the last node's", x.set(0, nodes - 1) > 0, true);
            for (int k : noNodesOf(nodes)) {
                due("set(0, " + k + ") with " + nodes + " nodes", x.set(0, k), NONE);
            }
        }
    }

    private static void kindOfNoNode() {
        sentence("Promise 9", "NONE when there is none.");
        for (SplitForest x : someGraphs()) {
            int nodes = x.strong(0) + 1;
            due("the last node's", x.kind(0, nodes - 1) > 0, true);
            for (int k : noNodesOf(nodes)) {
                due("kind(0, " + k + ") with " + nodes + " nodes", x.kind(0, k), NONE);
            }
        }
    }

    private static void partsOfNoNode() {
        sentence("Promise 10", "NONE when there is none.");
        for (SplitForest x : someGraphs()) {
            int nodes = x.strong(0) + 1;
            due("the last node's", x.parts(0, nodes - 1) > 0, true);
            for (int k : noNodesOf(nodes)) {
                due("parts(0, " + k + ") with " + nodes + " nodes", x.parts(0, k), NONE);
            }
        }
    }

    private static void partOfNoNode() {
        sentence("Promise 11", "of node k; NONE when there is none.");
        for (SplitForest x : someGraphs()) {
            int nodes = x.strong(0) + 1;
            for (int k : noNodesOf(nodes)) {
                due("part(0, " + k + ", 0) with " + nodes + " nodes", x.part(0, k, 0), NONE);
                due("part(0, " + k + ", " + k + ") with " + nodes + " nodes", x.part(0, k, k), NONE);
            }
        }
    }

    private static void partThatIsNone() {
        sentence("Promise 11", "The set of part i of node k; NONE when there is none.");
        for (SplitForest x : someGraphs()) {
            int last = x.strong(0);
            int count = x.parts(0, last);
            due("the last part", x.part(0, last, count - 1) > 0, true);
            for (int i : new int[] {count, count + 1, -1, -count, 9, 16, 32, 256, Integer.MIN_VALUE,
                Integer.MAX_VALUE}) {
                due("part(0, " + last + ", " + i + ") of " + count, x.part(0, last, i), NONE);
            }
        }
        SplitForest x = completeButOne(7);
        due("six parts are found", x.parts(0, 0), 6);
        due("a fourth of a node that has three, after one that has six", x.part(0, 1, 3), NONE);
    }

    private static void centreOfNoStar() {
        sentence("Promise 12", "NONE when it is no star.");
        due("one", new SplitForest(1).centre(0, 0), NONE);
        due("two", graph(2, "01").centre(1, 0), NONE);
        due("K3", complete(3).centre(0, 0), NONE);
        due("K9", complete(9).centre(0, 0), NONE);
        due("C5", circle(5).centre(0, 0), NONE);
        due("the gem, with one joined to all", gem().centre(0, 0), NONE);
        due("the diamond's clique", graph(4, "01 02 12 13 23").centre(0, 1), NONE);
        due("the diamond's star", graph(4, "01 02 12 13 23").centre(0, 0), 6);
        due("a star whose centre is the outside", circle(4).centre(0, 1), 5);
    }

    private static void centreOfNoNode() {
        sentence("Promise 12", "The set of the centre of node k");
        for (SplitForest x : someGraphs()) {
            int nodes = x.strong(0) + 1;
            for (int k : noNodesOf(nodes)) {
                due("centre(0, " + k + ") with " + nodes + " nodes", x.centre(0, k), NONE);
            }
        }
    }

    private static void linkedNeedsTwo() {
        sentence("Promise 13", "they are two vertices");
        for (SplitForest x : someGraphs()) {
            for (int v = 0; v < x.vertices(); v++) {
                due("linked(" + v + ", itself)", x.linked(v, v), false);
            }
        }
    }

    private static void linkedNeedsOneComponent() {
        sentence("Promise 13", "of one component");
        due("two alone", new SplitForest(2).linked(0, 1), false);
        SplitForest x = graph(9, "01 12 23 45 56 67");
        for (int v = 0; v < 4; v++) {
            for (int w = 4; w < 9; w++) {
                due("linked(" + v + ", " + w + ")", x.linked(v, w), false);
                due("linked(" + w + ", " + v + ")", x.linked(w, v), false);
            }
        }
        due("linked(0, 1)", x.linked(0, 1), true);
        due("linked(7, 6)", x.linked(7, 6), true);
    }

    private static void linkedOfNoVertex() {
        sentence("Promise 13", "Whether the tree says that v and w are neighbours: they are two vertices");
        for (int n = 1; n <= 9; n++) {
            SplitForest x = complete(n);
            for (int w : noVerticesOf(n)) {
                due(n + ": linked(0, " + w + ")", x.linked(0, w), false);
                due(n + ": linked(" + w + ", 0)", x.linked(w, 0), false);
                due(n + ": linked(" + w + ", itself)", x.linked(w, w), false);
            }
        }
    }

    private static void linkedInEveryNode() {
        sentence("Promise 13", "and in every node in which no part has both of them, the parts that have them"
                + " are joined");
        due("C4: not in node 0", circle(4).linked(0, 2), false);
        due("C4: not in node 1", circle(4).linked(1, 3), false);
        due("C4: in both", circle(4).linked(3, 0), true);
        SplitForest x = path(9);
        for (int v = 0; v < 9; v++) {
            for (int w = 0; w < 9; w++) {
                due("P9: linked(" + v + ", " + w + ")", x.linked(v, w), v - w == 1 || w - v == 1);
            }
        }
    }

    private static void linkedWithBothOutside() {
        sentence("Promise 13", "(A node that has neither v nor w in its set has both in its outside.)");
        due("P9: six nodes have neither 0 nor 1", path(9).linked(0, 1), true);
        due("K7 but 3 - 4: node 1 has neither 0 nor 6", completeButOne(7).linked(0, 6), true);
        due("K7 but 3 - 4: both in node 1", completeButOne(7).linked(3, 4), false);
    }

    // Promises 14 to 17

    private static void hereditaryOfTheComponentAlone() {
        sentence("Promise 14", "Whether C is hereditary.");
        SplitForest x = graph(9, "01 12 23 34 40 56 67");
        due("the C5", x.hereditary(0), false);
        due("the path beside it", x.hereditary(5), true);
        due("one beside it", x.hereditary(8), true);
        due("one of one", new SplitForest(1).hereditary(0), true);
        due("C4", circle(4).hereditary(0), true);
        due("C5", circle(5).hereditary(0), false);
    }

    private static void stepFrom0() {
        sentence("Promise 15", "Step k (from 0) of the elimination");
        due("two, step 0", graph(2, "01").step(0, 0), 1);
        due("two, step 1", graph(2, "01").step(0, 1), NONE);
        due("P9, step 0", path(9).step(0, 0), 8 + 16 * 7);
        due("P9, step 7", path(9).step(0, 7), 1);
    }

    private static void stepOfEachForm() {
        sentence("Promise 15", "256 times 0 for a leaf, 1 for a twin that is no neighbour of its partner, 2 for"
                + " one that is");
        due("a leaf at 0", star(9, 0).step(0, 0), 8);
        due("a leaf at 8", star(9, 8).step(0, 0), 7 + 16 * 8);
        due("no neighbour", circle(4).step(0, 0), 3 + 16 + 256);
        due("a neighbour", complete(3).step(0, 0), 2 + 512);
        due("the greatest", graph(9, "07 08 78 01").step(0, 0), 8 + 16 * 7 + 512);
    }

    private static void stepThatIsNone() {
        sentence("Promise 15", "NONE when there is none.");
        for (SplitForest x : new SplitForest[] {new SplitForest(1), path(2), path(9), complete(9), circle(5),
            graph(7, "01 12 23 34 40 45 56")}) {
            int steps = 0;
            while (steps < 9 && x.step(0, steps) != NONE) {
                steps++;
            }
            due("how many", steps, x.hereditary(0) ? x.vertices() - 1 : x.vertices() - 5);
            for (int k : new int[] {steps, steps + 1, -1, -steps - 1, 8, 9, 16, 32, 256, Integer.MIN_VALUE,
                Integer.MAX_VALUE}) {
                due("step(0, " + k + ") of " + steps, x.step(0, k), NONE);
            }
        }
        SplitForest two = graph(9, "01 12 23 34 56");
        due("four steps are found", two.step(0, 3), 1);
        due("a second of one, after four of the other", two.step(5, 1), NONE);
    }

    private static void obstructionElseNone() {
        sentence("Promise 16", "Else NONE.");
        for (SplitForest x : someGraphs()) {
            due("obstruction", x.obstruction(0), x.hereditary(0) ? NONE : 511);
        }
        SplitForest x = graph(9, "01 12 23 34 40 56 67");
        due("beside a C5", x.obstruction(5), NONE);
        due("alone beside a C5", x.obstruction(8), NONE);
        due("the C5", x.obstruction(0), 31);
        x.flip(0, 4);
        due("the C5 no more", x.obstruction(0), NONE);
    }

    private static void obstructionOfTheWholeComponent() {
        sentence("Promise 16", "If C is not hereditary: it without those of its vertices that");
        for (int n = 5; n <= 9; n++) {
            due("C" + n + ": none is left out", circle(n).obstruction(0), (1 << n) - 1);
        }
        due("the domino: none is left out", domino().obstruction(0), 63);
        due("the last five of nine", graph(9, "01 12 23 34 45 56 67 78 84").obstruction(0), 496);
        due("none that is not of C", graph(9, "45 56 67 78 84 01 12").obstruction(4), 496);
    }

    private static void obstructionByRisingNumbers() {
        sentence("Promise 16", "by rising numbers, are left out, each if what is left without it (and without"
                + " those left out before) is not hereditary");
        due("two circles with 4 in both: the later", graph(9, "01 12 23 34 40 45 56 67 78 84").obstruction(0),
                496);
        due("twins 0 and 5: the greater", graph(6, "01 12 23 34 40 51 54").obstruction(0), 62);
        due("twins 0 and 1: the greater", graph(6, "12 23 34 45 51 02 05").obstruction(0), 62);
        due("three twins 0, 1, 6: the greatest", graph(7, "02 05 12 15 62 65 23 34 45").obstruction(0), 124);
    }

    private static void holeOfEachSize() {
        sentence("Promise 17", "HOLE when it has as many edges as vertices");
        for (int n = 5; n <= 9; n++) {
            due("C" + n, circle(n).obstacle(n - 1), SplitForest.HOLE);
        }
        due("C4 is none", circle(4).obstacle(0), NONE);
        due("C6 and not a domino", circle(6).obstacle(0), SplitForest.HOLE);
        due("by its own edges alone", graph(6, "01 02 03 04 05 12 23 34 45 51").obstacle(0), SplitForest.HOLE);
    }

    private static void houseGemAndDomino() {
        sentence("Promise 17", "else HOUSE with 5 vertices and 6 edges, GEM with 5 and 7, DOMINO with 6 and 7");
        due("the house", house().obstacle(0), SplitForest.HOUSE);
        due("the gem", gem().obstacle(0), SplitForest.GEM);
        due("the domino", domino().obstacle(0), SplitForest.DOMINO);
        due("a house with a tail", graph(7, "01 12 23 34 40 02 35 56").obstacle(6), SplitForest.HOUSE);
        due("a gem with a tail", graph(7, "01 12 23 40 41 42 43 35 56").obstacle(6), SplitForest.GEM);
        due("a domino with a tail", graph(8, "01 12 23 34 45 50 03 16 67").obstacle(7), SplitForest.DOMINO);
    }

    private static void obstacleNone() {
        sentence("Promise 17", "NONE when there is no obstruction.");
        due("one", new SplitForest(1).obstacle(0), NONE);
        due("two", path(2).obstacle(0), NONE);
        due("K9", complete(9).obstacle(0), NONE);
        due("P9", path(9).obstacle(0), NONE);
        due("C4", circle(4).obstacle(0), NONE);
        due("K3, with as many edges as vertices", complete(3).obstacle(0), NONE);
        due("beside a C5", graph(9, "01 12 23 34 40 56 67").obstacle(5), NONE);
    }

    private static void noOtherObstacle() {
        sentence("Promise 17", "(There is no other one.)");
        int[] vertices = {0, 0, 5, 5, 6};
        int[] edges = {0, 0, 6, 7, 7};
        for (int chosen = 0; chosen < 1 << 15; chosen++) {
            SplitForest x = ofSix(chosen);
            int found = x.obstruction(0);
            int kind = x.obstacle(0);
            due("graph " + chosen + ": an obstruction has a kind", found != NONE, kind >= 1 && kind <= 4);
            if (kind > SplitForest.HOLE) {
                due("graph " + chosen + ": vertices", Integer.bitCount(found), vertices[kind]);
                due("graph " + chosen + ": edges", edgesInside(x, found), edges[kind]);
            } else if (kind == SplitForest.HOLE) {
                due("graph " + chosen + ": edges", edgesInside(x, found), Integer.bitCount(found));
            }
        }
    }

    private static SplitForest ofSix(int chosen) {
        SplitForest x = new SplitForest(6);
        int pair = 0;
        for (int a = 0; a < 6; a++) {
            for (int b = 0; b < a; b++) {
                if ((chosen >> pair & 1) != 0) {
                    x.flip(a, b);
                }
                pair++;
            }
        }
        return x;
    }

    private static int edgesInside(SplitForest x, int set) {
        int count = 0;
        for (int a = 0; a < 9; a++) {
            for (int b = 0; b < a; b++) {
                count += (set >> a & set >> b & 1) != 0 && x.neighbours(a, b) ? 1 : 0;
            }
        }
        return count;
    }

    // Promises 18 to 20

    private static void apartFewestAndMost() {
        sentence("Promise 18", "How many vertices the largest sets in C have in which no two are neighbours");
        due("one", new SplitForest(9).apart(8), 1);
        due("two", path(2).apart(0), 1);
        due("K9", complete(9).apart(0), 1);
        due("a star of nine", star(9, 8).apart(0), 8);
        due("in C alone", graph(9, "01").apart(0), 1);
    }

    private static void apartOfNotHereditary() {
        sentence("Promise 18", "NONE when C is not hereditary");
        for (SplitForest x : notHereditary()) {
            due("apart", x.apart(0), NONE);
        }
        due("beside a C5", graph(9, "01 12 23 34 40 56 67").apart(5), 2);
    }

    private static void chosenIsTheLeast() {
        sentence("Promise 19", "The least of these sets by its sum");
        due("one", new SplitForest(9).chosen(8), 256);
        due("two: 0 and not 1", path(2).chosen(1), 1);
        due("P4: {0, 2}, not {0, 3}, not {1, 3}", path(4).chosen(0), 5);
        due("C4: {0, 2}, not {1, 3}", circle(4).chosen(0), 5);
        due("K9", complete(9).chosen(8), 1);
        due("a star around 0: all but 0", star(9, 0).chosen(0), 510);
        due("{1, 2}, not {0, 3}: by the sum, not by the least vertex", graph(4, "01 13 32 20").chosen(0), 6);
    }

    private static void chosenOfNotHereditary() {
        sentence("Promise 19", "NONE when C is not hereditary");
        for (SplitForest x : notHereditary()) {
            due("chosen", x.chosen(0), NONE);
        }
        due("beside a C5", graph(9, "01 12 23 34 40 56 67").chosen(5), 32 + 128);
    }

    private static void coverFewestAndMost() {
        sentence("Promise 20", "The least number of sets into which C can be parted such that in each set all"
                + " are neighbours of one another");
        due("one", new SplitForest(9).cover(8), 1);
        due("two", path(2).cover(0), 1);
        due("three in a path", path(3).cover(0), 2);
        due("K9", complete(9).cover(0), 1);
        due("a star of nine", star(9, 8).cover(0), 8);
        due("C4", circle(4).cover(0), 2);
        due("in C alone", graph(9, "01").cover(0), 1);
    }

    private static void coverOfNotHereditary() {
        sentence("Promise 20", "NONE when C is not hereditary");
        for (SplitForest x : notHereditary()) {
            due("cover", x.cover(0), NONE);
        }
        due("beside a C5", graph(9, "01 12 23 34 40 56 67").cover(5), 2);
    }
}
