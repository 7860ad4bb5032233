import java.util.ArrayList;
import java.util.Arrays;
import java.util.Collections;
import java.util.List;
import java.util.NoSuchElementException;
import java.util.TreeMap;
import java.util.TreeSet;

/**
 * The document told a second time, as literally and as slowly as it goes, for the tests to compare
 * Threewayleaf with. It shares nothing with it, on purpose.
 */
public final class Model {
    static final class Here {
        int spot = -1;
        int tag;
        int aim = -1;
        TreeMap<Integer, List<Integer>> conflicts = new TreeMap<>();

        Here copy() {
            Here h = new Here();
            h.spot = spot;
            h.tag = tag;
            h.aim = aim;
            h.conflicts.putAll(conflicts);
            return h;
        }

        boolean same(Here o) {
            return spot == o.spot && tag == o.tag && aim == o.aim && conflicts.equals(o.conflicts);
        }
    }

    static final class State {
        TreeMap<Integer, Here> nodes = new TreeMap<>();
        TreeSet<Integer> said = new TreeSet<>();

        State copy() {
            State s = new State();
            for (Integer n : nodes.keySet()) {
                s.nodes.put(n, nodes.get(n).copy());
            }
            s.said.addAll(said);
            return s;
        }

        boolean has(int n) {
            return nodes.containsKey(n);
        }
    }

    record Spot(int holder, int node, int behind) {
    }

    record Word(int leaf, int sense, int writer, int behind) {
    }

    final List<Integer> kinds = new ArrayList<>(List.of(0));
    final List<Spot> spots = new ArrayList<>();
    final List<Word> words = new ArrayList<>();
    final List<State> states = new ArrayList<>();
    final List<List<Integer>> parents = new ArrayList<>();
    final List<Integer> heads = new ArrayList<>();
    final List<State> desks = new ArrayList<>();
    /** What the runs came across, for the test to tell whether they went deep enough. */
    final int[] seen = new int[8];

    public Model() {
        State s = new State();
        s.nodes.put(0, new Here());
        states.add(s);
        parents.add(List.of());
        heads.add(0);
        desks.add(s.copy());
    }

    // ---- looking things up

    State desk(int b) {
        if (b < 0 || b >= desks.size()) {
            throw new IndexOutOfBoundsException();
        }
        return desks.get(b);
    }

    State version(int v) {
        if (v < 0 || v >= states.size()) {
            throw new IndexOutOfBoundsException();
        }
        return states.get(v);
    }

    State view(int v) {
        return v >= 0 ? version(v) : desk(-1 - v);
    }

    Here here(State s, int n) {
        if (!s.has(n)) {
            throw new IndexOutOfBoundsException();
        }
        return s.nodes.get(n);
    }

    int holderOf(State s, int n) {
        return !s.has(n) || n == 0 ? -1 : spots.get(s.nodes.get(n).spot).holder();
    }

    void spotsBehind(int holder, int behind, List<Integer> to) {
        for (int i = spots.size() - 1; i >= 0; i--) {
            if (spots.get(i).holder() == holder && spots.get(i).behind() == behind) {
                to.add(i);
                spotsBehind(holder, i, to);
            }
        }
    }

    List<Integer> childrenOf(State s, int n) {
        List<Integer> out = new ArrayList<>();
        if (kinds.get(n) == 1) {
            for (int c : s.nodes.keySet()) {
                if (holderOf(s, c) == n) {
                    out.add(c);
                }
            }
            return out;
        }
        List<Integer> order = new ArrayList<>();
        spotsBehind(n, -1, order);
        for (int spot : order) {
            for (int c : s.nodes.keySet()) {
                if (c != 0 && s.nodes.get(c).spot == spot) {
                    out.add(c);
                }
            }
        }
        return out;
    }

    void wordsBehind(int leaf, int behind, List<Integer> to) {
        for (int i = words.size() - 1; i >= 0; i--) {
            if (words.get(i).leaf() == leaf && words.get(i).behind() == behind) {
                to.add(i);
                wordsBehind(leaf, i, to);
            }
        }
    }

    List<Integer> wordsOf(State s, int n) {
        List<Integer> out = new ArrayList<>();
        wordsBehind(n, -1, out);
        out.removeIf(w -> !s.said.contains(w));
        return out;
    }

    TreeSet<Integer> saidOf(State s, int n) {
        return new TreeSet<>(wordsOf(s, n));
    }

    /** All that a node is below; null if it is not below the root. */
    List<Integer> above(State s, int n) {
        List<Integer> out = new ArrayList<>();
        for (int at = n; at != 0;) {
            at = holderOf(s, at);
            if (!s.has(at) || out.contains(at)) {
                return null;
            }
            out.add(at);
        }
        return out;
    }

    int broken(State s) {
        TreeSet<Integer> rules = new TreeSet<>();
        for (int n : s.nodes.keySet()) {
            List<Integer> children = new ArrayList<>();
            for (int c : s.nodes.keySet()) {
                if (holderOf(s, c) == n) {
                    children.add(c);
                }
            }
            if (children.size() > 8) {
                rules.add(3);
            }
            TreeSet<Integer> tags = new TreeSet<>();
            for (int c : children) {
                tags.add(s.nodes.get(c).tag);
            }
            if (kinds.get(n) == 1 && tags.size() < children.size()) {
                rules.add(1);
            }
            int aim = s.nodes.get(n).aim;
            if (aim != -1 && !s.has(aim)) {
                rules.add(2);
            }
            List<Integer> above = above(s, n);
            if (above == null) {
                rules.add(5);
            } else if (above.size() > 8) {
                rules.add(4);
            }
        }
        return rules.isEmpty() ? 0 : rules.first();
    }

    void legal(State s) {
        if (broken(s) != 0) {
            throw new IllegalStateException();
        }
    }

    void range(int v, int most) {
        if (v < 0 || v > most) {
            throw new IllegalArgumentException();
        }
    }

    void state(boolean good) {
        if (!good) {
            throw new IllegalStateException();
        }
    }

    int takeOut(State s, int n) {
        List<Integer> gone = new ArrayList<>();
        for (int c : s.nodes.keySet()) {
            if (c == n || c != 0 && above(s, c).contains(n)) {
                gone.add(c);
            }
        }
        for (int c : gone) {
            s.said.removeAll(saidOf(s, c));
        }
        for (int c : gone) {
            s.nodes.remove(c);
        }
        return gone.size();
    }

    // ---- edits

    public int put(int branch, int parent, int place, int kind, int tag) {
        State s = desk(branch);
        here(s, parent);
        List<Integer> children = childrenOf(s, parent);
        range(place, children.size());
        range(kind, 3);
        range(tag, 9);
        state(kinds.get(parent) <= 1);
        state(kinds.size() < 40 && spots.size() < 120);
        int behind = place == 0 ? -1 : s.nodes.get(children.get(place - 1)).spot;
        State t = s.copy();
        Here h = new Here();
        h.spot = spots.size();
        h.tag = tag;
        t.nodes.put(kinds.size(), h);
        kinds.add(kind);
        spots.add(new Spot(parent, kinds.size() - 1, behind));
        if (broken(t) != 0) {
            kinds.remove(kinds.size() - 1);
            spots.remove(spots.size() - 1);
            throw new IllegalStateException();
        }
        desks.set(branch, t);
        return kinds.size() - 1;
    }

    public int remove(int branch, int node) {
        State s = desk(branch);
        here(s, node);
        state(node != 0);
        State t = s.copy();
        int count = takeOut(t, node);
        legal(t);
        desks.set(branch, t);
        return count;
    }

    public void move(int branch, int node, int parent, int place) {
        State s = desk(branch);
        here(s, node);
        here(s, parent);
        List<Integer> children = childrenOf(s, parent);
        children.remove((Integer) node);
        range(place, children.size());
        state(node != 0 && kinds.get(parent) <= 1);
        state(parent != node && !above(s, parent).contains(node));
        state(spots.size() < 120);
        int behind = place == 0 ? -1 : s.nodes.get(children.get(place - 1)).spot;
        State t = s.copy();
        t.nodes.get(node).spot = spots.size();
        spots.add(new Spot(parent, node, behind));
        if (broken(t) != 0) {
            spots.remove(spots.size() - 1);
            throw new IllegalStateException();
        }
        desks.set(branch, t);
    }

    public int retag(int branch, int node, int tag) {
        State s = desk(branch);
        int before = here(s, node).tag;
        range(tag, 9);
        State t = s.copy();
        t.nodes.get(node).tag = tag;
        legal(t);
        desks.set(branch, t);
        return before;
    }

    public int aim(int branch, int node, int aim) {
        State s = desk(branch);
        int before = here(s, node).aim;
        if (aim != -1) {
            here(s, aim);
        }
        state(kinds.get(node) == 3);
        s.nodes.get(node).aim = aim;
        return before;
    }

    public int write(int branch, int node, int place, int sense) {
        State s = desk(branch);
        here(s, node);
        List<Integer> said = wordsOf(s, node);
        range(place, said.size());
        range(sense, 99);
        state(kinds.get(node) == 2 && words.size() < 120);
        words.add(new Word(node, sense, branch, place == 0 ? -1 : said.get(place - 1)));
        s.said.add(words.size() - 1);
        return said.size() + 1;
    }

    public int strike(int branch, int node, int place) {
        State s = desk(branch);
        here(s, node);
        int word = wordsOf(s, node).get(checked(place, wordsOf(s, node).size()));
        s.said.remove(word);
        return words.get(word).sense();
    }

    int checked(int place, int size) {
        if (place < 0 || place >= size) {
            throw new IndexOutOfBoundsException();
        }
        return place;
    }

    public void settle(int branch, int node, int kind, int choice) {
        State s = desk(branch);
        here(s, node);
        range(kind, 4);
        range(choice, 1);
        State t = s.copy();
        Here h = t.nodes.get(node);
        List<Integer> options = h.conflicts.remove(kind);
        if (options == null) {
            throw new NoSuchElementException();
        }
        int option = options.get(choice);
        if (kind == 0) {
            state(s.has(spots.get(option).holder()));
            h.spot = option;
        } else if (kind == 1) {
            h.tag = option;
        } else if (kind == 2) {
            h.aim = option;
        } else if (kind == 3 && choice == 0) {
            takeOut(t, node);
        }
        legal(t);
        desks.set(branch, t);
        seen[0]++;
    }

    // ---- versions and branches

    public int commit(int branch) {
        State s = desk(branch);
        state(!isClean(branch) && states.size() < 40);
        states.add(s.copy());
        parents.add(List.of(heads.get(branch)));
        heads.set(branch, states.size() - 1);
        return states.size() - 1;
    }

    public int reset(int branch) {
        desk(branch);
        int count = edits(-1 - branch, heads.get(branch));
        desks.set(branch, states.get(heads.get(branch)).copy());
        return count;
    }

    public int fork(int version) {
        State s = version(version);
        state(heads.size() < 5);
        heads.add(version);
        desks.add(s.copy());
        return heads.size() - 1;
    }

    int toHead(int branch, int version) {
        heads.set(branch, version);
        desks.set(branch, states.get(version).copy());
        return version;
    }

    int land(int branch, State s, List<Integer> from) {
        legal(s);
        state(states.size() < 40);
        states.add(s);
        parents.add(from);
        return toHead(branch, states.size() - 1);
    }

    public int merge(int branch, int version) {
        desk(branch);
        version(version);
        state(isClean(branch));
        int head = heads.get(branch);
        if (line(head).contains(version)) {
            return head;
        }
        if (line(version).contains(head)) {
            return toHead(branch, version);
        }
        return land(branch, joinVersions(head, version), List.of(head, version));
    }

    public int pick(int branch, int version) {
        desk(branch);
        State s = version(version);
        state(!parents.get(version).isEmpty() && isClean(branch));
        State before = states.get(parents.get(version).get(0));
        int head = heads.get(branch);
        return land(branch, join(states.get(head), s, before), List.of(head));
    }

    public int revert(int branch, int version) {
        desk(branch);
        State s = version(version);
        state(!parents.get(version).isEmpty() && isClean(branch));
        State before = states.get(parents.get(version).get(0));
        int head = heads.get(branch);
        return land(branch, join(states.get(head), before, s), List.of(head));
    }

    public int against(int version, int other) {
        version(version);
        version(other);
        int rule = broken(joinVersions(version, other));
        seen[1] += rule == 5 ? 1 : 0;
        return rule;
    }

    public int versions() {
        return states.size();
    }

    public int head(int branch) {
        desk(branch);
        return heads.get(branch);
    }

    public boolean isClean(int branch) {
        return same(desk(branch), states.get(heads.get(branch)));
    }

    boolean same(State a, State b) {
        if (!a.nodes.keySet().equals(b.nodes.keySet()) || !a.said.equals(b.said)) {
            return false;
        }
        for (int n : a.nodes.keySet()) {
            if (!a.nodes.get(n).same(b.nodes.get(n))) {
                return false;
            }
        }
        return true;
    }

    public int parent(int version, int which) {
        version(version);
        range(which, 1);
        return which < parents.get(version).size() ? parents.get(version).get(which) : -1;
    }

    /** A version and all that are older. */
    TreeSet<Integer> line(int version) {
        TreeSet<Integer> out = new TreeSet<>(List.of(version));
        for (int v = version; v >= 0; v--) {
            if (out.contains(v)) {
                out.addAll(parents.get(v));
            }
        }
        return out;
    }

    TreeSet<Integer> lasts(int version, int other) {
        TreeSet<Integer> common = line(version);
        common.retainAll(line(other));
        TreeSet<Integer> out = new TreeSet<>(common);
        for (int c : common) {
            for (int d : line(c)) {
                if (d != c) {
                    out.remove(d);
                }
            }
        }
        return out;
    }

    public int bases(int version, int other) {
        version(version);
        version(other);
        return lasts(version, other).size();
    }

    // ---- joining

    State base(int version, int other) {
        List<Integer> last = new ArrayList<>(lasts(version, other));
        State out = states.get(last.get(0));
        for (int i = 1; i < last.size(); i++) {
            out = join(out, states.get(last.get(i)), base(last.get(i), last.get(0)));
        }
        seen[2] += last.size() > 1 ? 1 : 0;
        seen[3] += last.size() > 2 ? 1 : 0;
        return out;
    }

    State joinVersions(int version, int other) {
        return join(states.get(version), states.get(other), base(version, other));
    }

    boolean touched(int n, State s, State b) {
        if (!s.nodes.get(n).same(b.nodes.get(n)) || !saidOf(s, n).equals(saidOf(b, n))) {
            return true;
        }
        for (int c : s.nodes.keySet()) {
            if (holderOf(s, c) == n && (!b.has(c) || b.nodes.get(c).spot != s.nodes.get(c).spot)) {
                return true;
            }
        }
        return false;
    }

    /** One of three values; null if they are at odds. */
    static Integer take(int b, int x, int y) {
        if (x == y) {
            return x;
        }
        if (b == x) {
            return y;
        }
        return b == y ? x : null;
    }

    int value(Here h, int kind) {
        return h == null ? -2 : kind == 0 ? h.spot : kind == 1 ? h.tag : h.aim;
    }

    Here joinHere(Here b, Here x, Here y) {
        Here out = new Here();
        int[] values = new int[3];
        for (int kind = 0; kind < 5; kind++) {
            List<Integer> cb = b == null ? null : b.conflicts.get(kind);
            List<Integer> cx = x.conflicts.get(kind);
            List<Integer> cy = y.conflicts.get(kind);
            List<Integer> c;
            if (eq(cx, cy) || eq(cb, cy)) {
                c = cx;
            } else if (eq(cb, cx)) {
                c = cy;
            } else if (cx == null || cy == null) {
                c = cx == null ? cy : cx;
            } else {
                boolean first = cx.get(0) < cy.get(0) || cx.get(0).equals(cy.get(0)) && cx.get(1) < cy.get(1);
                c = first ? cx : cy;
                seen[6]++;
            }
            if (kind < 3) {
                int vx = value(x, kind);
                int vy = value(y, kind);
                Integer v = take(value(b, kind), vx, vy);
                values[kind] = v == null ? Math.min(vx, vy) : v;
                if (v == null) {
                    c = List.of(Math.min(vx, vy), Math.max(vx, vy));
                }
            }
            if (c != null) {
                out.conflicts.put(kind, c);
            }
        }
        out.spot = values[0];
        out.tag = values[1];
        out.aim = values[2];
        return out;
    }

    static boolean eq(List<Integer> a, List<Integer> b) {
        return a == null ? b == null : a.equals(b);
    }

    void bring(State out, int n, State from) {
        out.nodes.put(n, from.nodes.get(n).copy());
        out.said.addAll(saidOf(from, n));
    }

    State join(State x, State y, State b) {
        State out = new State();
        for (int n = 0; n < kinds.size(); n++) {
            if (x.has(n) && y.has(n)) {
                out.nodes.put(n, joinHere(b.nodes.get(n), x.nodes.get(n), y.nodes.get(n)));
                TreeSet<Integer> all = saidOf(x, n);
                all.addAll(saidOf(y, n));
                for (int w : all) {
                    int said = take(b.said.contains(w) ? 1 : 0, x.said.contains(w) ? 1 : 0, y.said.contains(w) ? 1 : 0);
                    if (said == 1) {
                        out.said.add(w);
                    }
                }
            } else if (x.has(n) || y.has(n)) {
                State one = x.has(n) ? x : y;
                if (!b.has(n)) {
                    bring(out, n, one);
                } else if (touched(n, one, b)) {
                    bring(out, n, one);
                    out.nodes.get(n).conflicts.put(3, List.of(0, 0));
                }
            }
        }
        TreeMap<Integer, Integer> rings = new TreeMap<>();
        for (int n : out.nodes.keySet()) {
            TreeSet<Integer> met = new TreeSet<>();
            int at = holderOf(out, n);
            while (at > 0 && met.add(at)) {
                at = holderOf(out, at);
            }
            if (met.contains(n)) {
                int spot = Math.max(value(x.nodes.get(n), 0), value(y.nodes.get(n), 0));
                rings.put(n, b.has(n) ? b.nodes.get(n).spot : spot);
                seen[4] += b.has(n) ? 0 : 1;
                seen[5]++;
            }
        }
        for (int n : rings.keySet()) {
            out.nodes.get(n).spot = rings.get(n);
            out.nodes.get(n).conflicts.put(4, List.of(0, 0));
        }
        for (;;) {
            TreeSet<Integer> missing = new TreeSet<>();
            for (int n : out.nodes.keySet()) {
                int h = holderOf(out, n);
                if (n != 0 && !out.has(h)) {
                    missing.add(h);
                }
            }
            if (missing.isEmpty()) {
                return out;
            }
            for (int h : missing) {
                bring(out, h, x.has(h) ? x : y.has(h) ? y : b);
                out.nodes.get(h).conflicts.put(3, List.of(0, 0));
                seen[7] += x.has(h) || y.has(h) ? 0 : 1;
            }
        }
    }

    // ---- views

    void node(int n) {
        checked(n, kinds.size());
    }

    public boolean isThere(int view, int node) {
        State s = view(view);
        node(node);
        return s.has(node);
    }

    public int kind(int node) {
        node(node);
        return kinds.get(node);
    }

    public int holder(int view, int node) {
        State s = view(view);
        here(s, node);
        return holderOf(s, node);
    }

    public int children(int view, int node) {
        State s = view(view);
        here(s, node);
        return childrenOf(s, node).size();
    }

    public int child(int view, int node, int place) {
        State s = view(view);
        here(s, node);
        if (place < 0) {
            throw new IndexOutOfBoundsException();
        }
        List<Integer> children = childrenOf(s, node);
        return place < children.size() ? children.get(place) : -1;
    }

    public int tag(int view, int node) {
        return here(view(view), node).tag;
    }

    public int aimOf(int view, int node) {
        return here(view(view), node).aim;
    }

    public int words(int view, int node) {
        State s = view(view);
        here(s, node);
        return wordsOf(s, node).size();
    }

    public int word(int view, int node, int place) {
        State s = view(view);
        here(s, node);
        List<Integer> said = wordsOf(s, node);
        Word w = words.get(said.get(checked(place, said.size())));
        return 10 * w.sense() + w.writer();
    }

    public int conflicts(int view) {
        int count = 0;
        for (Here h : view(view).nodes.values()) {
            count += h.conflicts.size();
        }
        return count;
    }

    public int option(int view, int node, int kind, int which) {
        Here h = here(view(view), node);
        range(kind, 4);
        range(which, 1);
        List<Integer> options = h.conflicts.get(kind);
        if (options == null) {
            throw new NoSuchElementException();
        }
        return kind == 0 ? spots.get(options.get(which)).holder() : options.get(which);
    }

    long printOf(State s, int n, boolean face) {
        Here h = s.nodes.get(n);
        List<Long> numbers = new ArrayList<>();
        numbers.add((long) kinds.get(n));
        numbers.add((long) h.tag);
        numbers.add(face ? 0L : h.aim + 1L);
        for (int w : wordsOf(s, n)) {
            numbers.add(words.get(w).sense() + 1L);
        }
        for (int c : childrenOf(s, n)) {
            numbers.add(printOf(s, c, face));
        }
        for (int kind = 0; kind < 5; kind++) {
            List<Integer> o = h.conflicts.get(kind);
            numbers.add(o == null || face ? 0L : kind >= 3 ? 1L : 1000L * o.get(0) + o.get(1) + 2);
        }
        long p = 17;
        for (long number : numbers) {
            p = 31 * p + number;
        }
        return p;
    }

    public long print(int view) {
        return printOf(view(view), 0, false);
    }

    public long joined(int version, int other) {
        version(version);
        version(other);
        State s = joinVersions(version, other);
        for (int n : s.nodes.keySet()) {
            if (above(s, n) == null) {
                return 0;
            }
        }
        return printOf(s, 0, false);
    }

    public long joinedByScript(int version, int other) {
        return joined(version, other);
    }

    // ---- scripts and likeness

    List<String> script(State a, State b) {
        List<List<String>> kinds = new ArrayList<>();
        for (int i = 0; i < 8; i++) {
            kinds.add(new ArrayList<>());
        }
        for (int n = 0; n < 40; n++) {
            Here x = a.nodes.get(n);
            Here y = b.nodes.get(n);
            if (x == null && y != null) {
                kinds.get(0).add("+" + n + ";");
            }
            if (x != null && y == null) {
                kinds.get(7).add("-" + n + ";");
            }
            if (x != null && y != null) {
                for (int i = 0; i < 3; i++) {
                    if (value(x, i) != value(y, i)) {
                        kinds.get(1 + i).add("*#@".charAt(i) + "" + n + ";");
                    }
                }
                if (!x.conflicts.equals(y.conflicts)) {
                    kinds.get(4).add("?" + n + ";");
                }
            }
        }
        for (int w = 0; w < words.size(); w++) {
            if (a.said.contains(w) != b.said.contains(w)) {
                kinds.get(b.said.contains(w) ? 5 : 6).add((b.said.contains(w) ? "!" : "~") + w + ";");
            }
        }
        List<String> out = new ArrayList<>();
        kinds.forEach(out::addAll);
        return out;
    }

    public int edits(int view, int other) {
        return script(view(view), view(other)).size();
    }

    public char scriptAt(int view, int other, int at) {
        String text = String.join("", script(view(view), view(other)));
        if (at < 0 || at >= text.length()) {
            throw new NoSuchElementException();
        }
        return text.charAt(at);
    }

    int byFace(State a, State b, int n) {
        long face = printOf(a, n, true);
        List<Integer> inA = new ArrayList<>();
        List<Integer> inB = new ArrayList<>();
        for (int i = 1; i < 40; i++) {
            if (a.has(i) && printOf(a, i, true) == face) {
                inA.add(i);
            }
            if (b.has(i) && printOf(b, i, true) == face) {
                inB.add(i);
            }
        }
        return n != 0 && inA.size() == 1 && inB.size() == 1 ? inB.get(0) : -1;
    }

    List<Integer> inTurn(State a, State b, int holder, int kind, int tag) {
        List<Integer> out = childrenOf(a, holder);
        out.removeIf(c -> byFace(a, b, c) != -1 || kinds.get(c) != kind || a.nodes.get(c).tag != tag);
        return out;
    }

    int matchOf(State a, State b, int n) {
        if (n == 0) {
            return 0;
        }
        int face = byFace(a, b, n);
        if (face != -1) {
            return face;
        }
        int holder = holderOf(a, n);
        int partner = matchOf(a, b, holder);
        if (partner == -1) {
            return -1;
        }
        int turn = inTurn(a, b, holder, kinds.get(n), a.nodes.get(n).tag).indexOf(n);
        List<Integer> there = inTurn(b, a, partner, kinds.get(n), a.nodes.get(n).tag);
        return turn < there.size() ? there.get(turn) : -1;
    }

    public int match(int view, int node, int other) {
        State a = view(view);
        State b = view(other);
        here(a, node);
        return matchOf(a, b, node);
    }

    public int likeness(int view, int other) {
        State a = view(view);
        State b = view(other);
        int count = 0;
        for (int n : a.nodes.keySet()) {
            count += matchOf(a, b, n) == -1 ? 0 : 1;
        }
        return count;
    }
}
