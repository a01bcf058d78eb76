import java.io.File;
import java.lang.reflect.InvocationTargetException;
import java.lang.reflect.Method;
import java.net.URISyntaxException;
import java.util.Arrays;
import java.util.Comparator;
import java.util.Set;
import java.util.TreeSet;

/** Counts the answers that are not the ones due, and ends the test with exit code 1 if there was one. */
final class Check {
    /** Stands for a call that threw an ArithmeticException. */
    static final long THROWN = Long.MIN_VALUE + 1;

    private static String where = "";
    private static int asked = 0;
    private static int wrong = 0;

    private Check() {
    }

    /** Runs every test of a class; a test is a method that bears the document's words. */
    static void all(Class<?> tests) throws IllegalAccessException {
        Method[] methods = tests.getDeclaredMethods();
        Arrays.sort(methods, Comparator.comparing(Method::getName));
        for (Method method : methods) {
            Says says = method.getAnnotation(Says.class);
            if (says != null) {
                where = tests.getSimpleName() + "." + method.getName() + " " + Arrays.toString(says.value()) + ": ";
                invoke(method);
            }
        }
        where = "";
        end();
    }

    /** The project's tests, as .ci/run finds them: by their names. */
    static Set<String> testNames() throws URISyntaxException {
        File folder = new File(Check.class.getProtectionDomain().getCodeSource().getLocation().toURI());
        String[] files = folder.list();
        Set<String> names = new TreeSet<>();
        for (String file : files == null ? new String[0] : files) {
            if (file.endsWith("Test.class")) {
                names.add(file.replace(".class", ""));
            }
        }
        return names;
    }

    private static void invoke(Method test) throws IllegalAccessException {
        int before = asked;
        try {
            test.invoke(null);
        } catch (InvocationTargetException e) {
            dueText("the test", String.valueOf(e.getCause()), "no exception");
        }
        dueTrue("the test looked at an answer", asked > before);
    }

    static void due(String call, long got, long want) {
        asked++;
        if (got != want) {
            wrong++;
            System.out.println(where + call + " answered " + got + ", due is " + want);
        }
    }

    static void dueText(String call, String got, String want) {
        asked++;
        if (!got.equals(want)) {
            wrong++;
            System.out.println(where + call + " answered " + got + ", due is " + want);
        }
    }

    static void dueTrue(String what, boolean holds) {
        due(what, holds ? 1 : 0, 1);
    }

    static int wrongOnes() {
        return wrong;
    }

    static void end() {
        System.out.println(asked + " answers looked at, " + wrong + " not as due");
        if (wrong != 0 || asked == 0) {
            System.exit(1);
        }
    }

    static long meanOf(RaceTuning x, int setting, int n, int side) {
        try {
            return x.mean(setting, n, side);
        } catch (ArithmeticException e) {
            return THROWN;
        }
    }

    static String odds(RaceTuning x, int a, int b) {
        return x.odds(a, b, 0) + "/" + x.odds(a, b, 1);
    }

    static RaceTuning withSettings(int count) {
        RaceTuning x = new RaceTuning();
        for (int s = 0; s < count; s++) {
            x.setting();
        }
        return x;
    }

    /** A table with these costs, a row for each setting; all instances learn and have features 0, 0. */
    static RaceTuning raced(int[][] costs) {
        return told(new int[costs[0].length][2], new boolean[costs[0].length], costs);
    }

    /** Instances with these features, the held out ones marked, and these costs. */
    static RaceTuning told(int[][] features, boolean[] heldOut, int[][] costs) {
        RaceTuning x = withSettings(costs.length);
        for (int i = 0; i < features.length; i++) {
            x.instance(features[i][0], features[i][1], heldOut[i]);
        }
        for (int s = 0; s < costs.length; s++) {
            for (int i = 0; i < costs[s].length; i++) {
                due("cost(" + s + ", " + i + ", " + costs[s][i] + ")", x.cost(s, i, costs[s][i]), i + 1);
            }
        }
        return x;
    }

    static void runAll(RaceTuning x, int runs) {
        for (int k = 1; k <= runs; k++) {
            due("run() number " + k, x.run(), k);
        }
    }
}
