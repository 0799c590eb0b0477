import java.util.ArrayList;
import java.util.List;

/**
 * "A call that is refused changes nothing": in several states, every kind of refused call is made, and then everything
 * that an object can show is compared with an object on which it was not made, at once and after more changes.
 */
public final class RefusalsTest {
    private static final Check CHECK = new Check("RefusalsTest");

    /** What could bring a hidden change to light: simplices come and go, numbers are kept, vertices are mapped. */
    private static final List<Call> MORE = List.of(
            new Call("add", 0, 1), new Call("add", 0, 0b10000011), new Call("add", 1, 33), new Call("put", 0, 3, 5),
            new Call("map", 7, 0), new Call("clear", 1), new Call("add", 1, 15), new Call("add", 1, 7),
            new Call("add", 1, 240));

    public static void main(String[] args) {
        CHECK.under("A call that is refused changes nothing");
        List<Refusal> always = alwaysRefused();
        check("empty", new ArrayList<>(), always, refusedByEmpty());
        check("mapped", mapped(), always, refusedByMapped());
        check("broken", broken(), always, refusedByBroken());
        check("full", full(), always, refusedByFull());
        check("full of triangles", fullOfTriangles(), always, refusedByTriangles());
        CHECK.finish();
    }

    private record Refusal(Call call, long answer) {
    }

    private static void check(String state, List<Call> calls, List<Refusal> always, List<Refusal> here) {
        List<Refusal> refusals = new ArrayList<>(always);
        refusals.addAll(here);
        List<Call> points = pointsAlone();
        Shown atOnce = Shown.after(calls, List.of());
        Shown later = Shown.after(calls, MORE);
        Shown mapAlone = Shown.after(calls, points);
        for (Refusal refusal : refusals) {
            HoleCounter x = new HoleCounter();
            calls.forEach(call -> call.on(x));
            String name = state + ", " + refusal.call;
            CHECK.due(name, refusal.call.on(x), refusal.answer);
            CHECK.due(name + " the second time", refusal.call.on(x), refusal.answer);
            List<Call> refused = new ArrayList<>(calls);
            refused.add(refusal.call);
            dueSame(name, atOnce, Shown.after(refused, List.of()));
            dueSame(name + " and more calls", later, Shown.after(refused, MORE));
            dueSame(name + " and then points alone", mapAlone, Shown.after(refused, points));
        }
    }

    private static void dueSame(String name, Shown without, Shown with) {
        String difference = without.difference(with);
        CHECK.due(name + ": " + difference, difference.isEmpty(), true);
    }

    /** Leaves nothing but the map, and shows where it takes each vertex, even if it was not simplicial before. */
    private static List<Call> pointsAlone() {
        List<Call> calls = new ArrayList<>(List.of(new Call("clear", 0), new Call("clear", 1)));
        for (int v = 0; v < 8; v++) {
            calls.add(new Call("add", 0, 1 << v));
            calls.add(new Call("add", 1, 1 << v));
            calls.add(new Call("put", 0, 1 << v, v + 1));
        }
        return calls;
    }

    private static void addAll(List<Call> calls, int c, int[] sets) {
        for (int set : sets) {
            calls.add(new Call("add", c, set));
        }
    }

    private static void putAll(List<Call> calls, int c, int[] sets, int... numbers) {
        for (int i = 0; i < sets.length; i++) {
            calls.add(new Call("put", c, sets[i], numbers[i]));
        }
    }

    private static void mapAll(List<Call> calls, int... images) {
        for (int v = 0; v < images.length; v++) {
            calls.add(new Call("map", v, images[v]));
        }
    }

    /** A circle twice round a line of the projective plane, which keeps this line; the map is simplicial. */
    private static List<Call> mapped() {
        List<Call> calls = new ArrayList<>();
        int[] circle = {3, 6, 12, 24, 48, 33};
        addAll(calls, 0, circle);
        putAll(calls, 0, circle, 2, 2, 2, 2, 2, -2);
        addAll(calls, 1, Spaces.PLANE);
        putAll(calls, 1, new int[] {3, 18, 17}, 1, 1, -1);
        mapAll(calls, 0, 1, 4, 0, 1, 4);
        return calls;
    }

    /** A torus and a disc that is three times round a circle; chains that are open; the map is not simplicial. */
    private static List<Call> broken() {
        List<Call> calls = new ArrayList<>();
        addAll(calls, 0, Spaces.TORUS);
        putAll(calls, 0, new int[] {1, 3, 11, 64}, 1, -9, 9, 7);
        addAll(calls, 1, Spaces.THREEFOLD);
        putAll(calls, 1, new int[] {2, 6, 11, 128}, 4, 3, -2, 1);
        mapAll(calls, 7, 6, 5);
        return calls;
    }

    private static List<Call> full() {
        List<Call> calls = new ArrayList<>();
        for (int c = 0; c < 2; c++) {
            addAll(calls, c, Spaces.CUBE);
            putAll(calls, c, Spaces.CUBE, 1, 2, 3, 4, 5, 6);
            putAll(calls, c, new int[] {1, 3, 7, 128, 192, 224}, -1, -2, -3, -4, -5, -6);
        }
        mapAll(calls, 4, 5, 6, 7, 0, 1, 2, 3);
        return calls;
    }

    /** 24 triangles on the first and on the last seven vertices, with room for a vertex and edges. */
    private static List<Call> fullOfTriangles() {
        List<Call> calls = new ArrayList<>();
        int triangles = 0;
        for (int set = 1; set < 128 && triangles < 24; set++) {
            if (Integer.bitCount(set) == 3) {
                triangles++;
                addAll(calls, 0, new int[] {set});
                addAll(calls, 1, new int[] {set << 1});
            }
        }
        mapAll(calls, 1, 2, 3, 4, 5, 6, 7);
        return calls;
    }

    private static void refuse(List<Refusal> list, long answer, String name, int... arguments) {
        list.add(new Refusal(new Call(name, arguments), answer));
    }

    private static List<Refusal> alwaysRefused() {
        List<Refusal> list = new ArrayList<>();
        for (int c : Outside.COMPLEXES) {
            refuseComplex(list, c);
        }
        for (int k : Outside.DIMENSIONS) {
            refuseDimension(list, k);
        }
        for (int set : Outside.SETS) {
            refuseSet(list, set);
        }
        for (int set : Outside.LARGE_SETS) {
            refuseSet(list, set);
        }
        for (int v : Outside.VERTICES) {
            refuse(list, 0, "map", v, 0);
            refuse(list, 0, "map", 0, v);
            refuse(list, 0, "map", v, v);
        }
        for (int p : new int[] {Integer.MIN_VALUE, -2, 0, 1, 4, 12, 14, 17, Integer.MAX_VALUE}) {
            refuse(list, HoleCounter.BAD, "bettiModulo", 0, 1, p);
        }
        for (int i : new int[] {Integer.MIN_VALUE, -1}) {
            refuse(list, HoleCounter.BAD, "torsion", 0, 1, i);
            refuse(list, HoleCounter.BAD, "simplex", 0, 1, i);
            refuse(list, 0, "incidence", 0, 1, i, 0);
            refuse(list, 0, "incidence", 0, 1, 0, i);
        }
        for (int i : new int[] {24, Integer.MAX_VALUE}) {
            refuse(list, HoleCounter.BAD, "simplex", 0, 1, i);
            refuse(list, 0, "incidence", 0, 1, i, 0);
            refuse(list, 0, "incidence", 0, 1, 0, i);
        }
        for (int x : Outside.NUMBERS) {
            refuse(list, 0, "put", 0, 3, x);
            refuse(list, 0, "put", 1, 3, x);
        }
        return list;
    }

    private static void refuseComplex(List<Refusal> list, int c) {
        refuse(list, HoleCounter.BAD, "add", c, 15);
        refuse(list, 0, "clear", c);
        refuse(list, HoleCounter.BAD, "count", c, 0);
        refuse(list, HoleCounter.BAD, "simplex", c, 0, 0);
        refuse(list, 0, "incidence", c, 1, 0, 0);
        refuse(list, 0, "euler", c);
        refuse(list, HoleCounter.BAD, "betti", c, 1);
        refuse(list, HoleCounter.BAD, "torsion", c, 1, 0);
        refuse(list, HoleCounter.BAD, "bettiModulo", c, 1, 2);
        refuse(list, 0, "put", c, 3, 4);
        refuse(list, 0, "get", c, 3);
        refuse(list, 0, "boundary", c, 1);
        refuse(list, HoleCounter.BAD, "order", c, 1);
        refuse(list, HoleCounter.BAD, "products", c);
    }

    private static void refuseDimension(List<Refusal> list, int k) {
        refuse(list, HoleCounter.BAD, "count", 0, k);
        refuse(list, HoleCounter.BAD, "simplex", 0, k, 0);
        refuse(list, 0, "incidence", 0, k, 0, 0);
        refuse(list, HoleCounter.BAD, "betti", 0, k);
        refuse(list, HoleCounter.BAD, "torsion", 0, k, 0);
        refuse(list, HoleCounter.BAD, "bettiModulo", 0, k, 2);
        refuse(list, HoleCounter.BAD, "order", 0, k);
        refuse(list, HoleCounter.BAD, "rank", k);
    }

    private static void refuseSet(List<Refusal> list, int set) {
        refuse(list, HoleCounter.BAD, "add", 0, set);
        refuse(list, HoleCounter.BAD, "add", 1, set);
        refuse(list, 0, "put", 0, set, 9);
        refuse(list, 0, "get", 0, set);
        refuse(list, 0, "boundary", 0, set);
        refuse(list, 0, "image", set);
    }

    private static List<Refusal> refusedByEmpty() {
        List<Refusal> list = new ArrayList<>();
        for (int c = 0; c < 2; c++) {
            refuse(list, HoleCounter.BAD, "simplex", c, 0, 0);
            refuse(list, 0, "put", c, 1, 9);
            refuse(list, 0, "put", c, 128, -9);
            refuse(list, 0, "put", c, 240, 1);
        }
        return list;
    }

    private static List<Refusal> refusedByMapped() {
        List<Refusal> list = new ArrayList<>();
        refuse(list, HoleCounter.BAD, "simplex", 0, 0, 6);
        refuse(list, HoleCounter.BAD, "simplex", 0, 2, 0);
        refuse(list, HoleCounter.BAD, "simplex", 1, 1, 15);
        refuse(list, 0, "put", 0, 5, 9);
        refuse(list, 0, "put", 0, 128, 9);
        refuse(list, 0, "put", 1, 19, 9);
        refuse(list, 0, "put", 0, 7, 9);
        refuse(list, 0, "image", 19);
        refuse(list, 0, "torsion", 1, 1, 1);
        return list;
    }

    private static List<Refusal> refusedByBroken() {
        List<Refusal> list = new ArrayList<>();
        for (int k = 0; k < 4; k++) {
            refuse(list, HoleCounter.BROKEN, "rank", k);
        }
        refuse(list, HoleCounter.OPEN, "order", 0, 1);
        refuse(list, HoleCounter.OPEN, "order", 0, 2);
        refuse(list, HoleCounter.OPEN, "order", 1, 1);
        refuse(list, HoleCounter.OPEN, "order", 1, 2);
        refuse(list, 0, "image", 1);
        refuse(list, 0, "image", 11);
        return list;
    }

    private static List<Refusal> refusedByTriangles() {
        List<Refusal> list = new ArrayList<>();
        for (int set : new int[] {0b10000011, 0b11000001, 0b11110000, 0b10000111, 0b1110000, 0b1101000}) {
            refuse(list, HoleCounter.FULL, "add", 0, set);
        }
        for (int set : new int[] {0b111, 0b11000001, 0b1111, 0b10000111, 0b11100000, 0b11010000}) {
            refuse(list, HoleCounter.FULL, "add", 1, set);
        }
        refuse(list, 0, "put", 0, 128, 9);
        refuse(list, 0, "put", 0, 0b10000011, 9);
        refuse(list, 0, "put", 1, 1, 9);
        refuse(list, 0, "put", 1, 0b111, 9);
        return list;
    }

    private static List<Refusal> refusedByFull() {
        List<Refusal> list = new ArrayList<>();
        for (int c = 0; c < 2; c++) {
            for (int set : new int[] {33, 18, 132, 72, 67, 195, 0b100111, 0b10000101}) {
                refuse(list, HoleCounter.FULL, "add", c, set);
            }
            refuse(list, HoleCounter.BAD, "simplex", c, 0, 8);
            refuse(list, HoleCounter.BAD, "simplex", c, 3, 6);
            refuse(list, 0, "put", c, 33, 9);
            refuse(list, 0, "put", c, 67, 9);
            for (int k = 1; k < 4; k++) {
                refuse(list, HoleCounter.OPEN, "order", c, k);
            }
        }
        return list;
    }
}
