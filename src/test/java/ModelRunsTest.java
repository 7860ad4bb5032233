import java.lang.reflect.InvocationTargetException;
import java.lang.reflect.Method;
import java.util.ArrayList;
import java.util.Arrays;
import java.util.Collections;
import java.util.HashMap;
import java.util.List;
import java.util.Map;

/** Long made-up runs of calls, each answered by Threewayleaf and by the Model, which have to agree. */
public final class ModelRunsTest {
    private static final String[] EDITS = {"put", "put", "put", "move", "move", "move", "remove", "retag", "retag", "aim", "write", "write", "strike", "settle"};
    private static final String[] STEPS = {"commit", "commit", "commit", "merge", "merge", "pick", "revert", "fork", "reset"};
    private static final String[] ASKED = {"against", "versions", "head", "isClean", "parent", "bases", "isThere", "kind", "holder", "children", "child", "tag", "aimOf", "words", "word", "conflicts", "option", "print", "joined", "joinedByScript", "edits", "scriptAt", "match", "likeness", "settle"};

    private static final int[] EXTREMES = {Integer.MIN_VALUE, Integer.MIN_VALUE + 1, -41, -6, -5, -2, -1, 0, 4, 5, 9, 10, 39, 40, 99, 100, 119, 120, Integer.MAX_VALUE - 1, Integer.MAX_VALUE};

    private static final int NARROW_RUNS = 20;

    private final Map<String, Method> calls = new HashMap<>();
    private final Map<String, Method> modelCalls = new HashMap<>();
    private long seed;
    private final List<String> log = new ArrayList<>();
    private final int[] answers = new int[2];
    /** One disagreement is told, with all calls up to it, and ends all runs. */
    private boolean hasDisagreed;

    private ModelRunsTest() {
        for (Method m : Threewayleaf.class.getDeclaredMethods()) {
            if (java.lang.reflect.Modifier.isPublic(m.getModifiers())) {
                calls.put(m.getName(), m);
            }
        }
        for (Method m : Model.class.getDeclaredMethods()) {
            if (java.lang.reflect.Modifier.isPublic(m.getModifiers())) {
                modelCalls.put(m.getName(), m);
            }
        }
        if (!calls.keySet().equals(modelCalls.keySet())) {
            throw new IllegalStateException("the faces differ: " + calls.keySet() + " " + modelCalls.keySet());
        }
    }

    private int below(int n) {
        seed = seed * 6364136223846793005L + 1442695040888963407L;
        return (int) Long.remainderUnsigned(seed >>> 20, Math.max(1, n));
    }

    private String of(String... names) {
        return names[below(names.length)];
    }

    private static Object answer(Method m, Object on, Object[] args) {
        try {
            return String.valueOf(m.invoke(on, args));
        } catch (InvocationTargetException e) {
            Throwable t = e.getCause();
            String thrower = t.getStackTrace().length == 0 ? "?" : t.getStackTrace()[0].getClassName();
            boolean byHand = thrower.startsWith("Threewayleaf") || thrower.startsWith("Model");
            return t.getClass().getName() + (byHand ? "" : " thrown by " + thrower);
        } catch (IllegalAccessException e) {
            throw new IllegalStateException(e);
        }
    }

    private int node(Model m, Model.State s) {
        if (below(12) == 0 || s == null) {
            return below(m.kinds.size() + 2) - 1;
        }
        List<Integer> there = new ArrayList<>(s.nodes.keySet());
        return there.get(below(there.size()));
    }

    private int nodeOfKind(Model m, Model.State s, int low, int high) {
        List<Integer> there = new ArrayList<>(s.nodes.keySet());
        there.removeIf(n -> m.kinds.get(n) < low || m.kinds.get(n) > high);
        return there.isEmpty() || below(15) == 0 ? node(m, s) : there.get(below(there.size()));
    }

    private int version(Model m) {
        int count = m.states.size();
        int r = below(20);
        return r == 0 ? below(count + 2) - 1 : r < 12 ? Math.max(0, count - 1 - below(5)) : r < 17 ? m.heads.get(below(m.heads.size())) : below(count);
    }

    private int branch(Model m) {
        return below(40) == 0 ? below(8) - 2 : below(m.heads.size());
    }

    private int view(Model m) {
        return below(2) == 0 ? -1 - branch(m) : version(m);
    }

    private static Model.State stateOf(Model m, int view) {
        int b = -1 - view;
        if (view < 0) {
            return b < m.desks.size() ? m.desks.get(b) : null;
        }
        return view < m.states.size() ? m.states.get(view) : null;
    }

    private int place(int size) {
        return below(10) == 0 ? below(size + 4) - 2 : below(size + 1);
    }

    private int[] conflict(Model m, Model.State s) {
        List<int[]> all = new ArrayList<>();
        if (s != null) {
            s.nodes.forEach((n, h) -> h.conflicts.keySet().forEach(k -> all.add(new int[] {n, k})));
        }
        return all.isEmpty() || below(8) == 0 ? new int[] {node(m, s), below(7) - 1} : all.get(below(all.size()));
    }

    private int[] arguments(String call, Model m) {
        int b = branch(m);
        int v = view(m);
        Model.State desk = stateOf(m, -1 - b);
        Model.State s = stateOf(m, v);
        boolean isDesk = desk != null && b >= 0;
        switch (call) {
            case "put": {
                int parent = isDesk ? nodeOfKind(m, desk, 0, 1) : 0;
                int size = isDesk && desk.has(parent) ? m.childrenOf(desk, parent).size() : 0;
                return new int[] {b, parent, place(size), below(30) == 0 ? below(8) - 2 : below(4), below(30) == 0 ? below(20) - 5 : below(10)};
            }
            case "move": {
                int parent = isDesk ? nodeOfKind(m, desk, 0, 1) : 0;
                int size = isDesk && desk.has(parent) ? m.childrenOf(desk, parent).size() : 0;
                return new int[] {b, isDesk ? node(m, desk) : 0, parent, place(size)};
            }
            case "remove":
                return new int[] {b, isDesk ? node(m, desk) : 0};
            case "retag":
                return new int[] {b, isDesk ? node(m, desk) : 0, below(30) == 0 ? below(20) - 5 : below(10)};
            case "aim":
                return new int[] {b, isDesk ? nodeOfKind(m, desk, 3, 3) : 0, below(5) == 0 || !isDesk ? below(4) - 3 : node(m, desk)};
            case "write":
            case "strike": {
                int leaf = isDesk ? nodeOfKind(m, desk, 2, 2) : 0;
                int size = isDesk && desk.has(leaf) ? m.wordsOf(desk, leaf).size() : 0;
                int[] args = {b, leaf, place(size), below(20) == 0 ? below(120) - 10 : below(100)};
                return call.equals("write") ? args : Arrays.copyOf(args, 3);
            }
            case "settle": {
                int[] c = conflict(m, isDesk ? desk : null);
                return new int[] {b, c[0], c[1], below(20) == 0 ? below(5) - 2 : below(2)};
            }
            case "option": {
                int[] c = conflict(m, s);
                return new int[] {v, c[0], c[1], below(20) == 0 ? below(5) - 2 : below(2)};
            }
            case "commit":
            case "reset":
            case "head":
            case "isClean":
                return new int[] {b};
            case "fork":
                return new int[] {version(m)};
            case "merge":
                return new int[] {b, version(m)};
            case "pick":
            case "revert":
                return new int[] {b, version(m)};
            case "against":
            case "bases":
            case "joined":
            case "joinedByScript":
                return new int[] {version(m), version(m)};
            case "parent":
                return new int[] {version(m), below(4) - 1};
            case "versions":
                return new int[0];
            case "kind":
                return new int[] {below(44) - 2};
            case "conflicts":
            case "print":
                return new int[] {v};
            case "edits":
            case "likeness":
                return new int[] {v, view(m)};
            case "scriptAt":
                return new int[] {v, view(m), below(6) == 0 ? below(80) - 4 : below(30)};
            case "match":
                return new int[] {v, node(m, s), view(m)};
            case "child":
            case "word":
                return new int[] {v, node(m, s), below(10) - 1};
            default:
                return new int[] {v, node(m, s)};
        }
    }

    /** Arguments that mostly fit, but for one, now and then, that is at a bound or far beyond it. */
    private int[] argumentsAtTimesExtreme(String call, Model m) {
        int[] args = arguments(call, m);
        if (args.length > 0 && below(25) == 0) {
            args[below(args.length)] = EXTREMES[below(EXTREMES.length)];
        }
        return args;
    }

    private boolean agree(String name, Object x, Model m, int[] args) {
        if (hasDisagreed) {
            return false;
        }
        Object[] boxed = Arrays.stream(args).boxed().toArray();
        Object got = answer(calls.get(name), x, boxed);
        Object due = answer(modelCalls.get(name), m, boxed);
        log.add(name + Arrays.toString(args) + " -> " + got);
        answers[due.toString().startsWith("java") ? 1 : 0]++;
        if (!got.equals(due)) {
            hasDisagreed = true;
            System.out.println("disagreed after " + log.size() + " calls, due is " + due);
            log.forEach(System.out::println);
            return false;
        }
        return true;
    }

    /** Asks for what tells the most about all states, so that nothing that went wrong stays hidden. */
    private boolean agreeOnAll(Object x, Model m) {
        for (int b = 0; b < m.heads.size(); b++) {
            if (!agree("print", x, m, new int[] {-1 - b}) || !agree("edits", x, m, new int[] {-1 - b, m.heads.get(b)})) {
                return false;
            }
        }
        int last = m.states.size() - 1;
        for (int v = Math.max(0, last - 6); v <= last; v++) {
            for (int w = Math.max(0, last - 6); w <= last; w++) {
                for (String name : List.of("joined", "joinedByScript", "against", "edits", "likeness")) {
                    if (!agree(name, x, m, new int[] {v, w})) {
                        return false;
                    }
                }
            }
        }
        return true;
    }

    /** The next call of a run in which few nodes are moved and removed in several branches at once. */
    private String crossing(int i, Model m) {
        if (i < 30 && m.heads.size() < 3) {
            return m.states.size() < 2 ? "commit" : "fork";
        }
        int r = below(100);
        if (r < 30) {
            return "move";
        }
        return r < 40 ? of("remove", "put", "settle") : r < 55 ? of("retag", "aim", "write", "strike", "put")
                : r < 75 ? "commit" : r < 90 ? "merge" : r < 94 ? of("pick", "revert", "reset") : of(ASKED);
    }

    private int[] narrowArguments(String call, int b, Model m) {
        Model.State desk = m.desks.get(b);
        List<Integer> there = new ArrayList<>(desk.nodes.keySet());
        int parent = there.get(below(there.size()));
        switch (call) {
            case "put":
                return new int[] {b, parent, 0, 0, below(10)};
            case "move":
                return new int[] {b, there.get(below(there.size())), parent, 0};
            case "remove":
                there.removeIf(n -> n > 2 || !m.childrenOf(desk, n).isEmpty());
                return new int[] {b, there.isEmpty() ? 0 : there.get(there.size() - 1)};
            case "merge":
                return new int[] {b, m.heads.get(below(m.heads.size()))};
            default:
                return new int[] {b};
        }
    }

    private boolean narrowAgrees(String name, int b, Object x, Model m) {
        return agree(name, x, m, narrowArguments(name, b, m));
    }

    /**
     * A short run in which a handful of LISTs is moved about in two or three branches by turns, and those
     * that are left without children are removed: so rings, what goes round once they are untied, and
     * holders that come back from the base are met more often than once in a thousand runs.
     */
    private boolean narrowRunAgrees(long number, int[] seen) {
        seed = number * 0x9E3779B97F4A7C15L + 54321;
        log.clear();
        Object x = new Threewayleaf();
        Model m = new Model();
        boolean isGood = true;
        for (int i = 3 + below(2); i > 0; i--) {
            isGood &= narrowAgrees("put", 0, x, m);
        }
        isGood &= narrowAgrees("commit", 0, x, m);
        for (int i = 1 + below(5) / 4; i > 0; i--) {
            isGood &= agree("fork", x, m, new int[] {1});
        }
        for (int stage = 0; stage < 3 && isGood; stage++) {
            for (int i = 3 + below(7); i > 0; i--) {
                isGood &= narrowAgrees(below(14) == 0 ? "put" : "move", below(m.heads.size()), x, m);
            }
            for (int b = 0; b < m.heads.size(); b++) {
                isGood &= (below(3) == 0 || narrowAgrees("remove", b, x, m)) && narrowAgrees("commit", b, x, m);
            }
            isGood &= agreeOnHeads(x, m);
            for (int i = below(4); i > 0; i--) {
                isGood &= narrowAgrees("merge", below(m.heads.size()), x, m);
            }
        }
        addSeen(m, seen);
        return isGood;
    }

    private boolean agreeOnHeads(Object x, Model m) {
        boolean isGood = true;
        for (int v : m.heads) {
            for (int w : m.heads) {
                for (String name : List.of("joined", "joinedByScript", "against", "edits")) {
                    isGood &= agree(name, x, m, new int[] {v, w});
                }
            }
        }
        return isGood;
    }

    private static void addSeen(Model m, int[] seen) {
        for (int i = 0; i < seen.length; i++) {
            seen[i] += m.seen[i];
        }
    }

    private boolean runAgrees(long number, int[] seen) {
        seed = number * 0x9E3779B97F4A7C15L + 12345;
        log.clear();
        Object x = new Threewayleaf();
        Model m = new Model();
        int editShare = 30 + below(50);
        int stepShare = 15 + below(40);
        int maxCalls = 200 + below(300);
        boolean isCrossing = number % 3 != 0;
        for (int i = 0; i < maxCalls; i++) {
            int r = below(100);
            String name = isCrossing && i > 12 ? crossing(i, m) : r < editShare ? of(EDITS) : r < editShare + stepShare ? of(STEPS) : of(ASKED);
            if (!agree(name, x, m, argumentsAtTimesExtreme(name, m))) {
                return false;
            }
        }
        boolean isGood = agreeOnAll(x, m);
        addSeen(m, seen);
        return isGood;
    }

    private boolean allRunsAgree(long number, int[] seen) {
        for (int i = 0; i < NARROW_RUNS; i++) {
            if (!narrowRunAgrees(number * NARROW_RUNS + i, seen)) {
                return false;
            }
        }
        return runAgrees(number, seen);
    }

    public static void main(String[] args) {
        int runs = args.length > 0 ? Integer.parseInt(args[0]) : 120;
        long start = args.length > 1 ? Long.parseLong(args[1]) : 1;
        ModelRunsTest test = new ModelRunsTest();
        int[] seen = new int[8];
        for (int i = 0; i < runs; i++) {
            if (!test.allRunsAgree(start + i, seen)) {
                System.out.println("run " + (start + i));
                System.exit(1);
            }
        }
        System.out.println(runs + " runs agree with the model; answers, exceptions: " + Arrays.toString(test.answers)
                + "; settled, rule 5, several bases, more than two, rings of new nodes, rings, odd conflicts, holders of the base: " + Arrays.toString(seen));
    }
}
