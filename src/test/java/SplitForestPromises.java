import java.lang.reflect.Constructor;
import java.lang.reflect.Field;
import java.lang.reflect.Method;
import java.lang.reflect.Modifier;
import java.util.Arrays;
import java.util.TreeSet;

/** One method for each promise, with answers that were worked out by hand from the document. */
public final class SplitForestPromises {
    private static final int[] NO_VERTICES = {-1, 9, 32, -32, 64, Integer.MIN_VALUE, Integer.MAX_VALUE};
    private static int wrong = 0;

    public static void main(String[] args) {
        theFace();
        promise1NewObject();
        promise2Vertices();
        promise3Flip();
        promise4Neighbours();
        promise5Component();
        promise6Splits();
        promise7Strong();
        promise8Set();
        promise9Kind();
        promise10Parts();
        promise11Part();
        promise12Centre();
        promise13Linked();
        promise14Hereditary();
        promise15Step();
        promise16Obstruction();
        promise17Obstacle();
        promise18Apart();
        promise19Chosen();
        promise20Cover();
        noVertexAtAll();
        noNodeAtAll();
        System.out.println(wrong == 0 ? "all answers are as due" : wrong + " answers are not as due");
        if (wrong != 0) {
            System.exit(1);
        }
    }

    private static void due(String what, long got, long want) {
        if (got != want) {
            wrong++;
            System.out.println(what + " answered " + got + ", due is " + want);
        }
    }

    private static void due(String what, boolean got, boolean want) {
        due(what, got ? 1 : 0, want ? 1 : 0);
    }

    private static void due(String what, Object got, Object want) {
        if (!got.equals(want)) {
            wrong++;
            System.out.println(what + " is " + got + ", due is " + want);
        }
    }

    /** The graph with the edges that are told as pairs of digits, such as "01 12". */
    private static SplitForest graph(int n, String edges) {
        SplitForest made = new SplitForest(n);
        for (String edge : edges.isEmpty() ? new String[0] : edges.split(" ")) {
            made.flip(edge.charAt(0) - '0', edge.charAt(1) - '0');
        }
        return made;
    }

    private static SplitForest complete(int n) {
        SplitForest made = new SplitForest(n);
        for (int a = 0; a < n; a++) {
            for (int b = 0; b < a; b++) {
                made.flip(a, b);
            }
        }
        return made;
    }

    private static SplitForest starAround(int n, int centre) {
        SplitForest made = new SplitForest(n);
        for (int a = 0; a < n; a++) {
            made.flip(a, centre);
        }
        return made;
    }

    private static SplitForest circle(int n) {
        SplitForest made = new SplitForest(n);
        for (int a = 0; a < n; a++) {
            made.flip(a, (a + 1) % n);
        }
        return made;
    }

    private static SplitForest path(int n) {
        SplitForest made = new SplitForest(n);
        for (int a = 1; a < n; a++) {
            made.flip(a - 1, a);
        }
        return made;
    }

    private static SplitForest house() {
        return graph(5, "01 12 23 34 40 02");
    }

    private static SplitForest gem() {
        return graph(5, "01 12 23 40 41 42 43");
    }

    private static SplitForest domino() {
        return graph(6, "01 12 23 34 45 50 03");
    }

    /** Two circles of five with the vertex 4 in common. */
    private static SplitForest twoCircles() {
        return graph(9, "01 12 23 34 40 45 56 67 78 84");
    }

    private static void theFace() {
        TreeSet<String> methods = new TreeSet<>();
        for (Method m : SplitForest.class.getDeclaredMethods()) {
            if (!Modifier.isPrivate(m.getModifiers()) && !m.isSynthetic()) {
                methods.add(Modifier.toString(m.getModifiers()) + " " + m.getReturnType() + " "
                        + m.getName() + Arrays.toString(m.getParameterTypes()));
            }
        }
        TreeSet<String> face = new TreeSet<>();
        face.add("public int vertices[]");
        for (String name : "flip neighbours linked".split(" ")) {
            face.add("public boolean " + name + "[int, int]");
        }
        for (String name : "component splits strong obstruction obstacle apart chosen cover".split(" ")) {
            face.add("public int " + name + "[int]");
        }
        for (String name : "set kind parts centre step".split(" ")) {
            face.add("public int " + name + "[int, int]");
        }
        face.add("public int part[int, int, int]");
        face.add("public boolean hereditary[int]");
        due("the methods", methods, face);

        StringBuilder fields = new StringBuilder();
        for (Field f : SplitForest.class.getDeclaredFields()) {
            if (!Modifier.isPrivate(f.getModifiers())) {
                fields.append(Modifier.toString(f.getModifiers())).append(' ').append(f.getName()).append(';');
            }
        }
        StringBuilder constants = new StringBuilder();
        for (String name : "NONE CLIQUE STAR PRIME HOLE HOUSE GEM DOMINO".split(" ")) {
            constants.append("public static final ").append(name).append(';');
        }
        due("the constants", fields.toString(), constants.toString());
        int[] values = {SplitForest.NONE, SplitForest.CLIQUE, SplitForest.STAR, SplitForest.PRIME,
            SplitForest.HOLE, SplitForest.HOUSE, SplitForest.GEM, SplitForest.DOMINO};
        due("their values", Arrays.toString(values), "[-1, 1, 2, 3, 1, 2, 3, 4]");

        Constructor<?>[] constructors = SplitForest.class.getDeclaredConstructors();
        due("the constructors", constructors.length, 1);
        due("the constructor", constructors[0].toString(), "public SplitForest(int)");
        due("the class", Modifier.toString(SplitForest.class.getModifiers()), "public final");
    }

    private static void promise1NewObject() {
        for (int n = 1; n <= 9; n++) {
            due("new: n", new SplitForest(n).vertices(), n);
        }
        for (int n : new int[] {0, 10, -1, -7, 11, 33, Integer.MIN_VALUE, Integer.MAX_VALUE}) {
            SplitForest x = new SplitForest(n);
            due("new " + n + ": n", x.vertices(), 7);
            due("new " + n + ": last vertex", x.component(6), 64);
            due("new " + n + ": no vertex", x.component(7), 0);
        }
        SplitForest x = new SplitForest(9);
        for (int a = 0; a < 9; a++) {
            for (int b = 0; b < 9; b++) {
                due("new: neighbours", x.neighbours(a, b), false);
            }
        }
    }

    private static void promise2Vertices() {
        SplitForest x = new SplitForest(3);
        x.flip(0, 1);
        x.flip(0, 5);
        due("vertices after flips", x.vertices(), 3);
        due("vertices of 1", new SplitForest(1).vertices(), 1);
        due("vertices of 9", new SplitForest(9).vertices(), 9);
    }

    private static void promise3Flip() {
        SplitForest x = new SplitForest(9);
        due("flip(0, 8)", x.flip(0, 8), true);
        due("flip(8, 0)", x.flip(8, 0), false);
        due("flip(0, 8) again", x.flip(0, 8), true);
        due("flip(3, 4)", x.flip(3, 4), true);
        due("0 and 8 still", x.neighbours(0, 8), true);
        due("flip(3, 3)", x.flip(3, 3), false);
        for (int w : NO_VERTICES) {
            due("flip(0, " + w + ")", x.flip(0, w), false);
            due("flip(" + w + ", 0)", x.flip(w, 0), false);
            due("flip(" + w + ", " + w + ")", x.flip(w, w), false);
        }
        for (int a = 0; a < 9; a++) {
            for (int b = 0; b < 9; b++) {
                boolean there = a + b == 8 && (a == 0 || b == 0) || a + b == 7 && (a == 3 || b == 3);
                due("after wrong flips " + a + " " + b, x.neighbours(a, b), there);
            }
        }
    }

    private static void promise4Neighbours() {
        SplitForest x = graph(5, "01 24");
        due("neighbours(0, 1)", x.neighbours(0, 1), true);
        due("neighbours(1, 0)", x.neighbours(1, 0), true);
        due("neighbours(4, 2)", x.neighbours(4, 2), true);
        due("neighbours(0, 2)", x.neighbours(0, 2), false);
        due("neighbours(1, 1)", x.neighbours(1, 1), false);
        due("neighbours(0, 5)", x.neighbours(0, 5), false);
        for (int w : NO_VERTICES) {
            due("neighbours(0, " + w + ")", x.neighbours(0, w), false);
            due("neighbours(" + w + ", 0)", x.neighbours(w, 0), false);
        }
    }

    private static void promise5Component() {
        SplitForest x = graph(9, "08 84 42 35");
        due("component(0)", x.component(0), 1 + 256 + 16 + 4);
        due("component(2)", x.component(2), 1 + 256 + 16 + 4);
        due("component(3)", x.component(3), 8 + 32);
        due("component(7)", x.component(7), 128);
        x.flip(4, 8);
        due("component(0) without 4 - 8", x.component(0), 1 + 256);
        due("component(4) without 4 - 8", x.component(4), 16 + 4);
        due("component(8) of the path", path(9).component(8), 511);
        due("component(0) of the path", path(9).component(0), 511);
        for (int w : NO_VERTICES) {
            due("component(" + w + ")", x.component(w), 0);
        }
    }

    private static void promise6Splits() {
        due("splits of one", new SplitForest(1).splits(0), 0);
        due("splits of K3", complete(3).splits(0), 0);
        due("splits of K4", complete(4).splits(3), 3);
        due("splits of K9", complete(9).splits(0), 256 - 1 - 8 - 1);
        due("splits of a star", starAround(9, 8).splits(8), 246);
        due("splits of C4", circle(4).splits(0), 1);
        due("splits of C5", circle(5).splits(0), 0);
        due("splits of P4", path(4).splits(0), 1);
        due("splits of P9", path(9).splits(4), 6);
        SplitForest x = graph(8, "67 75 54 01");
        due("splits of a P4 apart from 0", x.splits(4), 1);
        due("splits of an edge", x.splits(1), 0);
    }

    private static void promise7Strong() {
        due("strong of one", new SplitForest(1).strong(0), 0);
        due("strong of K9", complete(9).strong(0), 0);
        due("strong of a star", starAround(9, 0).strong(0), 0);
        due("strong of C4", circle(4).strong(0), 1);
        due("strong of P9", path(9).strong(0), 6);
        SplitForest x = complete(7);
        x.flip(3, 4);
        due("splits of K7 without an edge", x.splits(0), 26);
        due("strong of K7 without an edge", x.strong(0), 1);
        x.flip(3, 4);
        due("strong of K7 again", x.strong(0), 0);
    }

    private static void promise8Set() {
        SplitForest x = path(5);
        due("set 0", x.set(3, 0), 31);
        due("set 1", x.set(3, 1), 24);
        due("set 2", x.set(3, 2), 28);
        due("set 3", x.set(3, 3), -1);
        due("set of one", new SplitForest(4).set(2, 0), 4);
        due("C4, set 1", circle(4).set(0, 1), 10);
        SplitForest apart = graph(9, "67 75 54 01");
        due("set 1 without the least vertex", apart.set(6, 1), 64 + 128);
        due("set 0 there", apart.set(6, 0), 240);
        due("set 0 elsewhere", apart.set(0, 0), 3);
        due("set 1 elsewhere", apart.set(0, 1), -1);
    }

    private static void promise9Kind() {
        due("kind of one", new SplitForest(4).kind(3, 0), SplitForest.CLIQUE);
        due("kind of an edge", graph(2, "01").kind(0, 0), SplitForest.CLIQUE);
        due("kind of K9", complete(9).kind(0, 0), SplitForest.CLIQUE);
        due("kind of P3", path(3).kind(0, 0), SplitForest.STAR);
        due("kind of a star", starAround(9, 5).kind(0, 0), SplitForest.STAR);
        due("kind of C5", circle(5).kind(0, 0), SplitForest.PRIME);
        due("kind of the house", house().kind(0, 0), SplitForest.PRIME);
        due("kind of the gem", gem().kind(0, 0), SplitForest.PRIME);
        due("kind of the domino", domino().kind(0, 0), SplitForest.PRIME);
        SplitForest k7 = complete(7);
        k7.flip(3, 4);
        due("K7 without an edge, 0", k7.kind(0, 0), SplitForest.CLIQUE);
        due("K7 without an edge, 1", k7.kind(0, 1), SplitForest.STAR);
        SplitForest diamondTail = graph(5, "01 12 23 13 14 24 34");
        due("a K4 with a tail, 0", diamondTail.kind(0, 0), SplitForest.STAR);
        due("a K4 with a tail, 1", diamondTail.kind(0, 1), SplitForest.CLIQUE);
    }

    private static void promise10Parts() {
        due("parts of one", new SplitForest(2).parts(1, 0), 1);
        due("parts of K9", complete(9).parts(0, 0), 9);
        due("parts of C4, 0", circle(4).parts(0, 0), 3);
        due("parts of C4, 1", circle(4).parts(0, 1), 3);
        due("parts of C4, 2", circle(4).parts(0, 2), -1);
        SplitForest k7 = complete(7);
        k7.flip(3, 4);
        due("K7 without an edge, 0", k7.parts(0, 0), 6);
        due("K7 without an edge, 1", k7.parts(0, 1), 3);
    }

    private static void dueParts(String what, SplitForest x, int v, int k, int... want) {
        due(what + ", how many", x.parts(v, k), want.length);
        for (int i = 0; i < want.length; i++) {
            due(what + ", part " + i, x.part(v, k, i), want[i]);
        }
        for (int i : new int[] {want.length, -1, 9, 256, Integer.MIN_VALUE, Integer.MAX_VALUE}) {
            due(what + ", part " + i, x.part(v, k, i), -1);
        }
    }

    private static void promise11Part() {
        dueParts("one", new SplitForest(4), 2, 0, 4);
        dueParts("P5, 0", path(5), 4, 0, 1, 2, 28);
        dueParts("P5, 1", path(5), 4, 1, 7, 8, 16);
        dueParts("P5, 2", path(5), 4, 2, 3, 4, 24);
        dueParts("C4, 0", circle(4), 1, 0, 1, 4, 10);
        dueParts("C4, 1, the outside between", circle(4), 1, 1, 2, 5, 8);
        SplitForest k7 = complete(7);
        k7.flip(3, 4);
        dueParts("K7 without an edge, 0", k7, 0, 0, 1, 2, 4, 24, 32, 64);
        dueParts("K7 without an edge, 1", k7, 0, 1, 8, 16, 103);
        dueParts("C9", circle(9), 0, 0, 1, 2, 4, 8, 16, 32, 64, 128, 256);
    }

    private static void promise12Centre() {
        due("a star's", starAround(9, 5).centre(0, 0), 32);
        due("P5, 0", path(5).centre(0, 0), 2);
        due("P5, 1", path(5).centre(0, 1), 8);
        due("P5, 2", path(5).centre(0, 2), 4);
        due("P5, 3", path(5).centre(0, 3), -1);
        due("C4, 0", circle(4).centre(0, 0), 10);
        due("C4, 1", circle(4).centre(0, 1), 5);
        due("one", new SplitForest(3).centre(0, 0), -1);
        due("an edge", graph(2, "01").centre(0, 0), -1);
        due("K4", complete(4).centre(0, 0), -1);
        due("C5", circle(5).centre(0, 0), -1);
        due("the gem", gem().centre(0, 0), -1);
    }

    private static void promise13Linked() {
        SplitForest x = path(6);
        x.flip(4, 5);
        due("linked(0, 1)", x.linked(0, 1), true);
        due("linked(4, 3)", x.linked(4, 3), true);
        due("linked(0, 2)", x.linked(0, 2), false);
        due("linked(0, 4)", x.linked(0, 4), false);
        due("linked over components", x.linked(0, 5), false);
        due("linked to itself", x.linked(2, 2), false);
        due("alone, linked to itself", x.linked(5, 5), false);
        for (int w : NO_VERTICES) {
            due("linked(0, " + w + ")", x.linked(0, w), false);
            due("linked(" + w + ", 0)", x.linked(w, 0), false);
            due("linked(" + w + ", " + w + ")", x.linked(w, w), false);
        }
        SplitForest c4 = circle(4);
        due("C4, over both nodes", c4.linked(0, 1), true);
        due("C4, in node 0", c4.linked(0, 2), false);
        due("C4, in node 1", c4.linked(1, 3), false);
    }

    private static void promise14Hereditary() {
        due("one", new SplitForest(1).hereditary(0), true);
        due("an edge", graph(2, "01").hereditary(1), true);
        due("K9", complete(9).hereditary(0), true);
        due("P9", path(9).hereditary(0), true);
        due("C4", circle(4).hereditary(0), true);
        due("C5", circle(5).hereditary(0), false);
        due("C9", circle(9).hereditary(8), false);
        due("house", house().hereditary(0), false);
        due("gem", gem().hereditary(0), false);
        due("domino", domino().hereditary(0), false);
        SplitForest x = graph(9, "01 12 23 34 40 56 67");
        due("beside a C5", x.hereditary(5), true);
        due("the C5 beside", x.hereditary(3), false);
        due("alone beside", x.hereditary(8), true);
    }

    private static void dueSteps(String what, SplitForest x, int v, int... want) {
        for (int k = 0; k < want.length; k++) {
            due(what + ", step " + k, x.step(v, k), want[k]);
        }
        for (int k : new int[] {want.length, -1, 8, 9, 16, Integer.MIN_VALUE, Integer.MAX_VALUE}) {
            if (k < 0 || k >= want.length) {
                due(what + ", step " + k, x.step(v, k), -1);
            }
        }
    }

    private static void promise15Step() {
        dueSteps("one", new SplitForest(3), 1);
        dueSteps("an edge", graph(9, "78"), 7, 8 + 16 * 7);
        dueSteps("P4", path(4), 0, 3 + 16 * 2, 2 + 16, 1);
        dueSteps("C4", circle(4), 0, 3 + 16 + 256, 2 + 16, 1);
        dueSteps("K4", complete(4), 0, 3 + 512, 2 + 512, 1);
        dueSteps("a star: leaves, though twins", starAround(4, 0), 0, 3, 2, 1);
        dueSteps("a star around its greatest", starAround(4, 3), 0, 2 + 48, 1 + 48, 3);
        dueSteps("C5", circle(5), 0);
        dueSteps("C5 with a tail", graph(7, "01 12 23 34 40 45 56"), 0, 6 + 16 * 5, 5 + 16 * 4);
        dueSteps("K2,3: the least partner", graph(5, "02 03 04 12 13 14"), 4,
                4 + 16 * 2 + 256, 3 + 16 * 2 + 256, 1 + 16 * 2, 2);
        dueSteps("K9", complete(9), 3, 8 + 512, 7 + 512, 6 + 512, 5 + 512, 4 + 512, 3 + 512, 2 + 512, 1);
    }

    private static void promise16Obstruction() {
        due("one", new SplitForest(1).obstruction(0), -1);
        due("K9", complete(9).obstruction(0), -1);
        due("C5", circle(5).obstruction(4), 31);
        due("C9", circle(9).obstruction(0), 511);
        due("house", house().obstruction(0), 31);
        due("gem", gem().obstruction(0), 31);
        due("domino", domino().obstruction(0), 63);
        due("the later of two circles", twoCircles().obstruction(0), 496);
        due("C5 with a tail", graph(9, "01 12 23 34 40 45 56 67 78").obstruction(8), 31);
        due("C5 with a lesser twin of 1", graph(6, "12 23 34 45 51 02 05").obstruction(0), 62);
        due("C5 with a greater twin of 0", graph(6, "01 12 23 34 40 51 54").obstruction(0), 62);
        SplitForest x = graph(9, "34 45 56 67 73 01");
        due("a C5 without 0", x.obstruction(5), 8 + 16 + 32 + 64 + 128);
        due("beside it", x.obstruction(0), -1);
    }

    private static void promise17Obstacle() {
        due("one", new SplitForest(1).obstacle(0), -1);
        due("P9", path(9).obstacle(0), -1);
        for (int n = 5; n <= 9; n++) {
            due("C" + n, circle(n).obstacle(0), SplitForest.HOLE);
        }
        due("house", house().obstacle(0), SplitForest.HOUSE);
        due("gem", gem().obstacle(0), SplitForest.GEM);
        due("domino", domino().obstacle(0), SplitForest.DOMINO);
        due("two circles", twoCircles().obstacle(0), SplitForest.HOLE);
        SplitForest x = circle(5);
        x.flip(0, 2);
        due("C5 made a house", x.obstacle(0), SplitForest.HOUSE);
        x.flip(0, 3);
        due("the house made a gem", x.obstacle(0), SplitForest.GEM);
        x.flip(1, 4);
        due("the gem made a wheel", x.obstacle(0), -1);
    }

    private static void promise18Apart() {
        due("one", new SplitForest(1).apart(0), 1);
        due("K9", complete(9).apart(0), 1);
        due("star", starAround(9, 0).apart(0), 8);
        due("P9", path(9).apart(0), 5);
        due("C4", circle(4).apart(0), 2);
        due("C5", circle(5).apart(0), -1);
        SplitForest x = graph(9, "01 12 23 34 40 56 67");
        due("beside a C5", x.apart(5), 2);
        due("the C5 beside", x.apart(0), -1);
    }

    private static void promise19Chosen() {
        due("one", new SplitForest(9).chosen(8), 256);
        due("K9", complete(9).chosen(8), 1);
        due("star", starAround(9, 0).chosen(0), 510);
        due("P4: the least of three", path(4).chosen(0), 5);
        due("P9", path(9).chosen(0), 1 + 4 + 16 + 64 + 256);
        due("C4", circle(4).chosen(0), 5);
        due("C5", circle(5).chosen(0), -1);
        due("beside others", graph(9, "56 67").chosen(6), 32 + 128);
    }

    private static void promise20Cover() {
        due("one", new SplitForest(1).cover(0), 1);
        due("K9", complete(9).cover(0), 1);
        due("star", starAround(9, 0).cover(0), 8);
        due("P9", path(9).cover(0), 5);
        due("C4", circle(4).cover(0), 2);
        due("a K4 with a tail", graph(5, "01 12 23 13 14 24 34").cover(0), 2);
        due("two triangles", graph(5, "01 02 12 23 24 34").cover(0), 2);
        due("gem", gem().cover(0), -1);
        SplitForest x = path(5);
        due("P5", x.cover(0), 3);
        x.flip(0, 2);
        x.flip(2, 4);
        due("P5 made two triangles", x.cover(0), 2);
    }

    private static void noVertexAtAll() {
        SplitForest x = graph(9, "01 12 23 34");
        for (int v : NO_VERTICES) {
            String at = "(" + v + ", ..)";
            due("splits" + at, x.splits(v), -1);
            due("strong" + at, x.strong(v), -1);
            due("set" + at, x.set(v, 0), -1);
            due("kind" + at, x.kind(v, 0), -1);
            due("parts" + at, x.parts(v, 0), -1);
            due("part" + at, x.part(v, 0, 0), -1);
            due("centre" + at, x.centre(v, 0), -1);
            due("linked" + at, x.linked(v, 1), false);
            due("hereditary" + at, x.hereditary(v), false);
            due("step" + at, x.step(v, 0), -1);
            due("obstruction" + at, x.obstruction(v), -1);
            due("obstacle" + at, x.obstacle(v), -1);
            due("apart" + at, x.apart(v), -1);
            due("chosen" + at, x.chosen(v), -1);
            due("cover" + at, x.cover(v), -1);
        }
    }

    private static void noNodeAtAll() {
        SplitForest x = path(5);
        for (int k : new int[] {-1, 3, 16, 17, 256, Integer.MIN_VALUE, Integer.MAX_VALUE}) {
            String at = "(0, " + k + ")";
            due("set" + at, x.set(0, k), -1);
            due("kind" + at, x.kind(0, k), -1);
            due("parts" + at, x.parts(0, k), -1);
            due("part" + at, x.part(0, k, 0), -1);
            due("centre" + at, x.centre(0, k), -1);
        }
    }
}
