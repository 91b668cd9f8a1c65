import java.lang.reflect.InvocationTargetException;
import java.lang.reflect.Method;
import java.lang.reflect.Modifier;
import java.util.List;
import java.util.Map;
import java.util.TreeMap;

/** What the tests of boundaries have in common: each test is a method named after its promise, below the words it tries. */
abstract class Boundary {
    static final int BAD = -1, NO = -2, FULL = -3, NONE = -4;

    interface Play {
        void on(HangingCards x);
    }

    interface Call {
        int of(HangingCards x);
    }

    interface Argument {
        int with(HangingCards x, int v);
    }

    private static String test = "";
    private static int answers = 0;
    private static int wrong = 0;

    /** Runs each test of a class; ends with 1, if an answer is not due or a test throws. */
    static void run(Class<?> tests) {
        int failed = 0;
        Map<String, Method> all = testsOf(tests);
        for (Map.Entry<String, Method> one : all.entrySet()) {
            test = one.getKey();
            answers = 0;
            wrong = 0;
            play(one.getValue());
            boolean passed = wrong == 0 && answers > 0;
            if (!passed) failed++;
            String told = passed ? ": " + answers + " as due" : ": FAILED, " + wrong + " of " + answers;
            System.out.println("  " + test + told + wordsOf(one.getValue()));
        }
        System.out.println(tests.getName() + ": " + all.size() + " tests, " + failed + " failed");
        if (failed != 0 || all.isEmpty()) System.exit(1);
    }

    static Map<String, Method> testsOf(Class<?> tests) {
        Map<String, Method> all = new TreeMap<>();
        for (Method one : tests.getDeclaredMethods()) {
            boolean isTest = Modifier.isStatic(one.getModifiers()) && one.getName().startsWith("promise");
            if (isTest) all.put(one.getName(), one);
        }
        return all;
    }

    private static String wordsOf(Method one) {
        Says says = one.getAnnotation(Says.class);
        return says == null ? "" : ", \"" + String.join("\", \"", says.value()) + "\"";
    }

    private static void play(Method one) {
        try {
            one.setAccessible(true);
            one.invoke(null);
        } catch (InvocationTargetException | IllegalAccessException e) {
            wrong++;
            System.out.println(test + " threw " + (e.getCause() == null ? e : e.getCause()));
        }
    }

    static void due(String what, long want, long got) {
        answers++;
        if (got == want) return;
        wrong++;
        System.out.println(test + ": " + what + " answered " + got + ", due is " + want);
    }

    static HangingCards made(Play... plays) {
        HangingCards x = new HangingCards();
        for (Play one : plays) one.on(x);
        return x;
    }

    /** An answer that changes nothing: behind it an object answers as its twin that was not asked. */
    static void unchanged(String what, int want, Play setUp, Call call) {
        for (int part = 0; part < State.PARTS.length; part++) {
            HangingCards x = made(setUp);
            due(what, want, call.of(x));
            due(what + ", asked again,", want, call.of(x));
            List<Integer> seen = State.seen(x, part);
            due(what + ": no change of " + State.PARTS[part], 1, seen.equals(State.seen(made(setUp), part)) ? 1 : 0);
        }
    }

    static void refused(String what, int want, Play setUp, Call call) {
        unchanged(what + " is refused:", want, setUp, call);
    }

    /** Both ends of one argument of a call: the last good number answers, the next one and the farthest are refused. */
    static Edges edges(String what, Argument call) {
        return new Edges(what, State::rich, BAD, call);
    }

    record Edges(String what, Play setUp, int refusal, Argument call) {
        Edges on(Play other) {
            return new Edges(what, other, refusal, call);
        }

        Edges refusing(int other) {
            return new Edges(what, setUp, other, call);
        }

        Edges from(int low, int want) {
            due(what + " " + low, want, call.with(made(setUp), low));
            refuse(low - 1);
            refuse(low - 1001);
            refuse(Integer.MIN_VALUE);
            return this;
        }

        Edges to(int high, int want) {
            due(what + " " + high, want, call.with(made(setUp), high));
            refuse(high + 1);
            refuse(high + 65536);
            refuse(Integer.MAX_VALUE);
            return this;
        }

        private void refuse(int v) {
            refused(what + " " + v, refusal, setUp, x -> call.with(x, v));
        }
    }

    static long h(String figures) {
        return Check.holes(figures);
    }

    static long n(String letters) {
        return Check.name(letters);
    }

    /** Cards told by county and figures, in turn. */
    static Play cards(Object... countyAndHoles) {
        return x -> {
            for (int i = 0; i + 1 < countyAndHoles.length; i += 2) {
                x.card((Integer) countyAndHoles[i], h((String) countyAndHoles[i + 1]));
            }
        };
    }

    /** So many cards of one county, all alike. */
    static Play cards(int many, int county, String holes) {
        return x -> {
            for (int i = 0; i < many; i++) x.card(county, h(holes));
        };
    }

    static Play written(String text) {
        return x -> Check.write(x, text);
    }

    static Play forced(String text) {
        return x -> Check.force(x, text);
    }

    static Play both(Play one, Play other) {
        return x -> {
            one.on(x);
            other.on(x);
        };
    }

    static void nothing(HangingCards x) {
    }
}
