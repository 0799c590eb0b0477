import java.lang.reflect.Constructor;
import java.lang.reflect.Method;

/**
 * The matrices inside the program. Complexes of this size seem to have no torsion but 2 and 3, so squares and mixtures of
 * primes are tried here, on matrices that no complex has.
 */
public final class GridTest {
    private static final Check CHECK = new Check("GridTest");

    private final Object grid;

    private GridTest(int[][] rows) throws ReflectiveOperationException {
        Constructor<?> constructor = Class.forName("HoleCounter$Grid").getDeclaredConstructor();
        constructor.setAccessible(true);
        grid = constructor.newInstance();
        call("shape", rows.length, rows[0].length);
        for (int i = 0; i < rows.length; i++) {
            for (int j = 0; j < rows[i].length; j++) {
                call("write", i, j, rows[i][j]);
            }
        }
    }

    public static void main(String[] args) throws ReflectiveOperationException {
        factors(new int[][] {{0, 0}, {0, 0}});
        factors(new int[][] {{4, 2}, {2, 4}}, 2, 6);
        factors(new int[][] {{6, 4}, {4, 8}}, 2, 16);
        factors(new int[][] {{4, 0}, {0, 6}}, 2, 12);
        factors(new int[][] {{9, 0, 0}, {0, 6, 0}, {0, 0, 4}}, 1, 6, 36);
        factors(new int[][] {{2, 4, 6}, {4, 8, 12}}, 2);
        factors(new int[][] {{-1, 0, 8}, {1, 0, 8}, {0, 0, 0}}, 1, 16);
        factors(new int[][] {{8, 0, 0}, {0, 2, 0}, {0, 0, 4}}, 2, 4, 8);
        factors(new int[][] {{1009, 0}, {0, 1009 * 7}}, 1009, 1009 * 7);
        factors(new int[][] {{16777213}}, 16777213);

        order(new int[][] {{4, 1}, {0, 0}}, 4);
        order(new int[][] {{4, 2}, {0, 0}}, 2);
        order(new int[][] {{4, -8}, {0, 0}}, 1);
        order(new int[][] {{4, 1}, {0, 1}}, 0);
        order(new int[][] {{4, 0, 1}, {0, 6, 1}}, 12);
        order(new int[][] {{4, 0, 2}, {0, 6, 3}}, 2);
        order(new int[][] {{4, 0, 3}, {0, 6, 2}}, 12);
        order(new int[][] {{9, 0, 0, 3}, {0, 6, 0, 2}, {0, 0, 4, 2}}, 6);
        order(new int[][] {{8, 0, 6}, {0, 8, 4}}, 4);
        order(new int[][] {{2, 4, 1}, {4, 8, 2}}, 2);
        order(new int[][] {{7}, {0}}, 0);
        order(new int[][] {{0}, {0}}, 1);
        CHECK.finish();
    }

    private static void factors(int[][] rows, int... want) throws ReflectiveOperationException {
        GridTest test = new GridTest(rows);
        String name = java.util.Arrays.deepToString(rows);
        int rank = test.call("findFactors");
        CHECK.due("rank of " + name, rank, want.length);
        for (int i = 0; i < Math.min(rank, want.length); i++) {
            CHECK.due("factor " + i + " of " + name, test.call("factor", i), want[i]);
        }
    }

    private static void order(int[][] rows, int want) throws ReflectiveOperationException {
        String name = java.util.Arrays.deepToString(rows);
        CHECK.due("order of the last column of " + name, new GridTest(rows).call("orderOfLastColumn"), want);
    }

    private int call(String name, Object... arguments) throws ReflectiveOperationException {
        Class<?>[] types = new Class<?>[arguments.length];
        java.util.Arrays.fill(types, int.class);
        Method method = grid.getClass().getDeclaredMethod(name, types);
        method.setAccessible(true);
        Object answer = method.invoke(grid, arguments);
        return answer instanceof Integer number ? number : 0;
    }
}
