import java.util.ArrayList;
import java.util.Arrays;
import java.util.NoSuchElementException;

/**
 * A store of documents that are trees: branches edit them, versions are kept for ever, and two
 * versions are joined over what both come from.
 */
public final class Threewayleaf {
    public static final int NONE = -1;
    public static final int LIST = 0, SET = 1, LEAF = 2, LINK = 3;
    public static final int MOVED = 0, TAGGED = 1, AIMED = 2, GONE = 3, RING = 4;

    private static final int ROOT = 0;
    private static final int MAX_NODES = 40;
    private static final int MAX_SPOTS = 120;
    private static final int MAX_WORDS = 120;
    private static final int MAX_VERSIONS = 40;
    private static final int MAX_BRANCHES = 5;
    private static final int MAX_CHILDREN = 8;
    private static final int MAX_DEPTH = 8;
    private static final int MAX_TAG = 9;
    private static final int MAX_SENSE = 99;
    private static final int CONFLICT_KINDS = 5;
    /** The spot, the tag and the aim of a node that is not there. */
    private static final int ABSENT = -2;
    /** Greater than each conflict, so that of two that are at odds the lesser one is never none. */
    private static final int NO_CONFLICT = 1 << 20;

    private final Stock stock = new Stock();
    private final Look look = new Look(stock);
    private final History history = new History();
    private final BaseFinder baseFinder = new BaseFinder(look, history);
    private final Script script = new Script();
    private final Printer printer = new Printer(stock, look);
    private final Matcher matcher = new Matcher(stock, look, printer);
    private final State[] desks = new State[MAX_BRANCHES];
    private final int[] heads = new int[MAX_BRANCHES];
    private int branches = 1;
    /** Where an edit or a join is tried before it counts, so that a call that throws changes nothing. */
    private final State trial = new State();
    private final long[] prints = new long[MAX_NODES];

    public Threewayleaf() {
        for (int i = 0; i < MAX_BRANCHES; i++) {
            desks[i] = new State();
        }
        State start = new State();
        start.seat(ROOT, NONE, 0);
        history.add(start, NONE, NONE);
        desks[0].copyFrom(start);
    }

    // ---- edits of desks

    public int put(int branch, int parent, int place, int kind, int tag) throws IndexOutOfBoundsException, IllegalArgumentException, IllegalStateException {
        State desk = deskOf(branch);
        needThere(desk, parent);
        needRange(place, look.countChildren(desk, parent, NONE));
        needRange(kind, LINK);
        needRange(tag, MAX_TAG);
        needHolderKind(parent);
        if (stock.nodesAreFull()) {
            throw new IllegalStateException("no more nodes");
        }
        int ahead = spotAhead(desk, parent, place, NONE);
        int node = stock.planNode(kind);
        trial.copyFrom(desk);
        trial.seat(node, planSpot(node, parent), tag);
        acceptTrial(desk);
        stock.keepNode();
        stock.keepSpot(ahead);
        return node;
    }

    public int remove(int branch, int node) throws IndexOutOfBoundsException, IllegalStateException {
        State desk = deskOf(branch);
        needThere(desk, node);
        needNoRoot(node);
        trial.copyFrom(desk);
        int removed = takeOut(desk, node);
        acceptTrial(desk);
        return removed;
    }

    public void move(int branch, int node, int parent, int place) throws IndexOutOfBoundsException, IllegalArgumentException, IllegalStateException {
        State desk = deskOf(branch);
        needThere(desk, node);
        needThere(desk, parent);
        needRange(place, look.countChildren(desk, parent, node));
        needNoRoot(node);
        needHolderKind(parent);
        if (look.isWithin(desk, parent, node)) {
            throw new IllegalStateException("the parent is the node or below it");
        }
        int ahead = spotAhead(desk, parent, place, node);
        trial.copyFrom(desk);
        trial.setValue(node, MOVED, planSpot(node, parent));
        acceptTrial(desk);
        stock.keepSpot(ahead);
    }

    public int retag(int branch, int node, int tag) throws IndexOutOfBoundsException, IllegalArgumentException, IllegalStateException {
        State desk = deskOf(branch);
        needThere(desk, node);
        needRange(tag, MAX_TAG);
        int before = desk.tagOf(node);
        trial.copyFrom(desk);
        trial.setValue(node, TAGGED, tag);
        acceptTrial(desk);
        return before;
    }

    public int aim(int branch, int node, int aim) throws IndexOutOfBoundsException, IllegalStateException {
        State desk = deskOf(branch);
        needThere(desk, node);
        if (aim != NONE) {
            needThere(desk, aim);
        }
        if (stock.kindOf(node) != LINK) {
            throw new IllegalStateException("the node is no LINK");
        }
        int before = desk.valueOf(node, AIMED);
        desk.setValue(node, AIMED, aim);
        return before;
    }

    public int write(int branch, int node, int place, int sense) throws IndexOutOfBoundsException, IllegalArgumentException, IllegalStateException {
        State desk = deskOf(branch);
        needThere(desk, node);
        int count = look.countWords(desk, node);
        needRange(place, count);
        needRange(sense, MAX_SENSE);
        if (stock.kindOf(node) != LEAF) {
            throw new IllegalStateException("the node is no LEAF");
        }
        if (stock.wordsAreFull()) {
            throw new IllegalStateException("no more words");
        }
        int ahead = place == 0 ? NONE : look.wordAt(desk, node, place - 1);
        desk.say(stock.addWord(node, sense, branch, ahead), true);
        return count + 1;
    }

    public int strike(int branch, int node, int place) throws IndexOutOfBoundsException {
        State desk = deskOf(branch);
        int struck = neededWord(desk, node, place);
        desk.say(struck, false);
        return stock.senseOf(struck);
    }

    public void settle(int branch, int node, int kind, int choice) throws IndexOutOfBoundsException, IllegalArgumentException, java.util.NoSuchElementException, IllegalStateException {
        State desk = deskOf(branch);
        int chosen = optionOf(neededConflict(desk, node, kind, choice), choice);
        if (kind == MOVED && !desk.has(stock.spotHolder(chosen))) {
            throw new IllegalStateException("the holder of the spot is not there");
        }
        trial.copyFrom(desk);
        trial.setConflict(node, kind, NO_CONFLICT);
        trial.setValue(node, kind, chosen);
        if (kind == GONE && choice == 0) {
            takeOut(desk, node);
        }
        acceptTrial(desk);
    }

    // ---- versions and branches

    public int commit(int branch) throws IndexOutOfBoundsException, IllegalStateException {
        State desk = deskOf(branch);
        if (isDeskClean(branch)) {
            throw new IllegalStateException("the branch is clean");
        }
        if (history.isFull()) {
            throw new IllegalStateException("no more versions");
        }
        State kept = new State();
        kept.copyFrom(desk);
        heads[branch] = history.add(kept, heads[branch], NONE);
        return heads[branch];
    }

    public int reset(int branch) throws IndexOutOfBoundsException {
        State desk = deskOf(branch);
        script.tell(desk, history.stateOf(heads[branch]));
        desk.copyFrom(history.stateOf(heads[branch]));
        return script.count();
    }

    public int fork(int version) throws IndexOutOfBoundsException, IllegalStateException {
        needVersion(version);
        if (branches >= MAX_BRANCHES) {
            throw new IllegalStateException("no more branches");
        }
        int branch = branches;
        branches++;
        setHead(branch, version);
        return branch;
    }

    public int merge(int branch, int version) throws IndexOutOfBoundsException, IllegalStateException {
        needBranch(branch);
        needVersion(version);
        needClean(branch);
        int head = heads[branch];
        if (version == head || history.isOlder(version, head)) {
            return head;
        }
        if (history.isOlder(head, version)) {
            return setHead(branch, version);
        }
        tryJoin(head, version);
        return landTrial(branch, version);
    }

    public int pick(int branch, int version) throws IndexOutOfBoundsException, IllegalStateException {
        needBranch(branch);
        needVersion(version);
        needClean(branch);
        State before = firstParentState(version);
        new Join(look, headState(branch), history.stateOf(version), before, trial).joinAll();
        return landTrial(branch, NONE);
    }

    public int revert(int branch, int version) throws IndexOutOfBoundsException, IllegalStateException {
        needBranch(branch);
        needVersion(version);
        needClean(branch);
        State before = firstParentState(version);
        new Join(look, headState(branch), before, history.stateOf(version), trial).joinAll();
        return landTrial(branch, NONE);
    }

    public int against(int version, int other) throws IndexOutOfBoundsException {
        needVersion(version);
        needVersion(other);
        tryJoin(version, other);
        return look.brokenRule(trial);
    }

    public int versions() {
        return history.count();
    }

    public int head(int branch) throws IndexOutOfBoundsException {
        needBranch(branch);
        return heads[branch];
    }

    public boolean isClean(int branch) throws IndexOutOfBoundsException {
        needBranch(branch);
        return isDeskClean(branch);
    }

    public int parent(int version, int which) throws IndexOutOfBoundsException, IllegalArgumentException {
        needVersion(version);
        needRange(which, 1);
        return history.parentOf(version, which);
    }

    public int bases(int version, int other) throws IndexOutOfBoundsException {
        needVersion(version);
        needVersion(other);
        return Long.bitCount(history.lastCommon(version, other));
    }

    // ---- views

    public boolean isThere(int view, int node) throws IndexOutOfBoundsException {
        State state = viewed(view);
        needNode(node);
        return state.has(node);
    }

    public int kind(int node) throws IndexOutOfBoundsException {
        needNode(node);
        return stock.kindOf(node);
    }

    public int holder(int view, int node) throws IndexOutOfBoundsException {
        State state = viewed(view);
        needThere(state, node);
        return look.holderIn(state, node);
    }

    public int children(int view, int node) throws IndexOutOfBoundsException {
        State state = viewed(view);
        needThere(state, node);
        return look.countChildren(state, node, NONE);
    }

    public int child(int view, int node, int place) throws IndexOutOfBoundsException {
        State state = viewed(view);
        needThere(state, node);
        if (place < 0) {
            throw new IndexOutOfBoundsException("the place is below 0");
        }
        return look.childAt(state, node, place, NONE);
    }

    public int tag(int view, int node) throws IndexOutOfBoundsException {
        State state = viewed(view);
        needThere(state, node);
        return state.tagOf(node);
    }

    public int aimOf(int view, int node) throws IndexOutOfBoundsException {
        State state = viewed(view);
        needThere(state, node);
        return state.valueOf(node, AIMED);
    }

    public int words(int view, int node) throws IndexOutOfBoundsException {
        State state = viewed(view);
        needThere(state, node);
        return look.countWords(state, node);
    }

    public int word(int view, int node, int place) throws IndexOutOfBoundsException {
        int found = neededWord(viewed(view), node, place);
        return 10 * stock.senseOf(found) + stock.writerOf(found);
    }

    public int conflicts(int view) throws IndexOutOfBoundsException {
        return viewed(view).countConflicts();
    }

    public int option(int view, int node, int kind, int which) throws IndexOutOfBoundsException, IllegalArgumentException, java.util.NoSuchElementException {
        int value = optionOf(neededConflict(viewed(view), node, kind, which), which);
        return kind == MOVED ? stock.spotHolder(value) : value;
    }

    public long print(int view) throws IndexOutOfBoundsException {
        return rootPrint(viewed(view));
    }

    public long joined(int version, int other) throws IndexOutOfBoundsException {
        needVersion(version);
        needVersion(other);
        tryJoin(version, other);
        return look.isAdrift(trial) ? 0 : rootPrint(trial);
    }

    public long joinedByScript(int version, int other) throws IndexOutOfBoundsException {
        needVersion(version);
        needVersion(other);
        State over = BaseFinder.baseOf(baseFinder, version, other, 0);
        script.tell(over, history.stateOf(other));
        new Join(look, history.stateOf(version), history.stateOf(other), over, trial).playAll(script);
        return look.isAdrift(trial) ? 0 : rootPrint(trial);
    }

    // ---- scripts and likeness

    public int edits(int view, int other) throws IndexOutOfBoundsException {
        script.tell(viewed(view), viewed(other));
        return script.count();
    }

    public char scriptAt(int view, int other, int at) throws IndexOutOfBoundsException, java.util.NoSuchElementException {
        script.tell(viewed(view), viewed(other));
        if (at < 0 || at >= script.textLength()) {
            throw new NoSuchElementException("the text has no such char");
        }
        return script.textAt(at);
    }

    public int match(int view, int node, int other) throws IndexOutOfBoundsException {
        State first = viewed(view);
        State second = viewed(other);
        needThere(first, node);
        matcher.pair(first, second);
        return matcher.partnerOf(node);
    }

    public int likeness(int view, int other) throws IndexOutOfBoundsException {
        matcher.pair(viewed(view), viewed(other));
        return matcher.countPairs();
    }

    // ---- what the calls need

    private void needBranch(int branch) {
        if (branch < 0 || branch >= branches) {
            throw new IndexOutOfBoundsException("there is no such branch");
        }
    }

    private void needVersion(int version) {
        if (version < 0 || version >= history.count()) {
            throw new IndexOutOfBoundsException("there is no such version");
        }
    }

    private void needNode(int node) {
        if (node < 0 || node >= stock.nodeCount()) {
            throw new IndexOutOfBoundsException("there is no such node");
        }
    }

    private void needThere(State state, int node) {
        if (!state.has(node)) {
            throw new IndexOutOfBoundsException("the node is not there");
        }
    }

    private void needRange(int value, int greatest) {
        if (value < 0 || value > greatest) {
            throw new IllegalArgumentException("an argument is out of its range");
        }
    }

    private void needNoRoot(int node) {
        if (node == ROOT) {
            throw new IllegalStateException("the node is the root");
        }
    }

    private void needHolderKind(int node) {
        int kind = stock.kindOf(node);
        if (kind != LIST && kind != SET) {
            throw new IllegalStateException("the parent is a LEAF or a LINK");
        }
    }

    private void needClean(int branch) {
        if (!isDeskClean(branch)) {
            throw new IllegalStateException("the branch is not clean");
        }
    }

    private int neededWord(State state, int node, int place) {
        needThere(state, node);
        int found = look.wordAt(state, node, place);
        if (found == NONE) {
            throw new IndexOutOfBoundsException("there is no such place of a word");
        }
        return found;
    }

    private int neededConflict(State state, int node, int kind, int which) {
        needThere(state, node);
        needRange(kind, RING);
        needRange(which, 1);
        int conflict = state.conflictOf(node, kind);
        if (conflict == NO_CONFLICT) {
            throw new NoSuchElementException("the node has no such conflict");
        }
        return conflict;
    }

    private State firstParentState(int version) {
        int first = history.parentOf(version, 0);
        if (first == NONE) {
            throw new IllegalStateException("the version has no parent");
        }
        return history.stateOf(first);
    }

    // ---- desks, heads and trials

    private State deskOf(int branch) {
        needBranch(branch);
        return desks[branch];
    }

    private State headState(int branch) {
        needBranch(branch);
        return history.stateOf(heads[branch]);
    }

    private State viewed(int view) {
        if (view < 0) {
            return deskOf(-1 - view);
        }
        needVersion(view);
        return history.stateOf(view);
    }

    private boolean isDeskClean(int branch) {
        script.tell(deskOf(branch), headState(branch));
        return script.count() == 0;
    }

    private int setHead(int branch, int version) {
        State desk = deskOf(branch);
        heads[branch] = version;
        desk.copyFrom(history.stateOf(version));
        return version;
    }

    private int planSpot(int node, int holder) {
        if (stock.spotsAreFull()) {
            throw new IllegalStateException("no more spots");
        }
        return stock.planSpot(node, holder);
    }

    private int spotAhead(State state, int parent, int place, int leftOut) {
        return place == 0 ? NONE : state.spotOf(look.childAt(state, parent, place - 1, leftOut));
    }

    private void acceptTrial(State desk) {
        if (look.brokenRule(trial) != 0) {
            throw new IllegalStateException("a rule would be broken");
        }
        desk.copyFrom(trial);
    }

    private void tryJoin(int version, int other) {
        State over = BaseFinder.baseOf(baseFinder, version, other, 0);
        new Join(look, history.stateOf(version), history.stateOf(other), over, trial).joinAll();
    }

    private int landTrial(int branch, int second) {
        if (look.brokenRule(trial) != 0) {
            throw new IllegalStateException("a rule would be broken");
        }
        if (history.isFull()) {
            throw new IllegalStateException("no more versions");
        }
        State kept = new State();
        kept.copyFrom(trial);
        return setHead(branch, history.add(kept, heads[branch], second));
    }

    /** Takes a node of the desk, and all that are below it there, out of the trial. */
    private int takeOut(State desk, int node) {
        int count = 0;
        for (int one = 0; one < MAX_NODES; one++) {
            if (desk.has(one) && look.isWithin(desk, one, node)) {
                trial.drop(one);
                look.hush(trial, one);
                count++;
            }
        }
        return count;
    }

    private long rootPrint(State state) {
        printer.fill(state, false, prints);
        return prints[ROOT];
    }

    // ---- conflicts as numbers

    /** Both options in one number: of two such numbers the lesser one has the lesser options. */
    private static int conflictWith(int one, int other) {
        return ((Math.min(one, other) + 2) << 8) + Math.max(one, other) + 2;
    }

    private static int optionOf(int conflict, int which) {
        return (which == 0 ? conflict >> 8 : conflict & 255) - 2;
    }

    /** What is there, and how: of each node its spot, tag, aim and conflicts, and the words said. */
    private static final class State {
        private final int[] spots = new int[MAX_NODES];
        private final int[] tags = new int[MAX_NODES];
        private final int[] aims = new int[MAX_NODES];
        private final int[] conflicts = new int[MAX_NODES * CONFLICT_KINDS];
        private final boolean[] said = new boolean[MAX_WORDS];

        State() {
            Arrays.fill(spots, ABSENT);
            Arrays.fill(tags, ABSENT);
            Arrays.fill(aims, ABSENT);
            Arrays.fill(conflicts, NO_CONFLICT);
        }

        boolean has(int node) {
            return node >= 0 && node < MAX_NODES && tags[node] != ABSENT;
        }

        int spotOf(int node) {
            return node >= 0 && node < MAX_NODES ? spots[node] : ABSENT;
        }

        int tagOf(int node) {
            return node >= 0 && node < MAX_NODES ? tags[node] : ABSENT;
        }

        /** The spot, the tag or the aim, by the kind of conflict that tells of it. */
        int valueOf(int node, int kind) {
            if (node < 0 || node >= MAX_NODES) {
                return ABSENT;
            }
            switch (kind) {
                case MOVED:
                    return spots[node];
                case TAGGED:
                    return tags[node];
                case AIMED:
                    return aims[node];
                default:
                    return ABSENT;
            }
        }

        void setValue(int node, int kind, int value) {
            if (node < 0 || node >= MAX_NODES) {
                return;
            }
            switch (kind) {
                case MOVED:
                    spots[node] = value;
                    break;
                case TAGGED:
                    tags[node] = value;
                    break;
                case AIMED:
                    aims[node] = value;
                    break;
                default:
                    break;
            }
        }

        int conflictOf(int node, int kind) {
            if (node < 0 || node >= MAX_NODES || kind < 0 || kind >= CONFLICT_KINDS) {
                return NO_CONFLICT;
            }
            return conflicts[node * CONFLICT_KINDS + kind];
        }

        void setConflict(int node, int kind, int conflict) {
            if (node >= 0 && node < MAX_NODES && kind >= 0 && kind < CONFLICT_KINDS) {
                conflicts[node * CONFLICT_KINDS + kind] = conflict;
            }
        }

        int countConflicts() {
            int count = 0;
            for (int i = 0; i < conflicts.length; i++) {
                if (conflicts[i] != NO_CONFLICT) {
                    count++;
                }
            }
            return count;
        }

        boolean hasConflictsOf(State other, int node) {
            if (node < 0 || node >= MAX_NODES) {
                return true;
            }
            int start = node * CONFLICT_KINDS;
            for (int i = start; i < start + CONFLICT_KINDS; i++) {
                if (conflicts[i] != other.conflicts[i]) {
                    return false;
                }
            }
            return true;
        }

        boolean says(int word) {
            return word >= 0 && word < MAX_WORDS && said[word];
        }

        void say(int word, boolean isSaid) {
            if (word >= 0 && word < MAX_WORDS) {
                said[word] = isSaid;
            }
        }

        void seat(int node, int spot, int tag) {
            setValue(node, MOVED, spot);
            setValue(node, TAGGED, tag);
            setValue(node, AIMED, NONE);
        }

        /** The node is not there then; its words are the caller's to hush. */
        void drop(int node) {
            for (int kind = 0; kind < CONFLICT_KINDS; kind++) {
                setValue(node, kind, ABSENT);
                setConflict(node, kind, NO_CONFLICT);
            }
        }

        /** The node is then as in the other one, but for its words. */
        void copyNode(State other, int node) {
            for (int kind = 0; kind < CONFLICT_KINDS; kind++) {
                setValue(node, kind, other.valueOf(node, kind));
                setConflict(node, kind, other.conflictOf(node, kind));
            }
        }

        void copyFrom(State other) {
            System.arraycopy(other.spots, 0, spots, 0, MAX_NODES);
            System.arraycopy(other.tags, 0, tags, 0, MAX_NODES);
            System.arraycopy(other.aims, 0, aims, 0, MAX_NODES);
            System.arraycopy(other.conflicts, 0, conflicts, 0, MAX_NODES * CONFLICT_KINDS);
            System.arraycopy(other.said, 0, said, 0, MAX_WORDS);
        }
    }

    /** The nodes, spots and words that were ever made, in whatever branch, and what never changes of them. */
    private static final class Stock {
        private int nodes = 1;
        private int spots;
        private int words;
        private final int[] kinds = new int[MAX_NODES];
        private final int[] holders = new int[MAX_SPOTS];
        private final int[] owners = new int[MAX_SPOTS];
        private final int[] spotOrder = new int[MAX_SPOTS];
        private final int[] leaves = new int[MAX_WORDS];
        private final int[] senses = new int[MAX_WORDS];
        private final int[] writers = new int[MAX_WORDS];
        private final int[] wordOrder = new int[MAX_WORDS];

        int nodeCount() {
            return nodes;
        }

        int spotCount() {
            return spots;
        }

        int wordCount() {
            return words;
        }

        boolean nodesAreFull() {
            return nodes >= MAX_NODES;
        }

        boolean spotsAreFull() {
            return spots >= MAX_SPOTS;
        }

        boolean wordsAreFull() {
            return words >= MAX_WORDS;
        }

        int kindOf(int node) {
            return node >= 0 && node < MAX_NODES ? kinds[node] : NONE;
        }

        int spotHolder(int spot) {
            return spot >= 0 && spot < MAX_SPOTS ? holders[spot] : NONE;
        }

        int ownerOf(int spot) {
            return spot >= 0 && spot < MAX_SPOTS ? owners[spot] : NONE;
        }

        int spotInOrder(int place) {
            return place >= 0 && place < spots && place < MAX_SPOTS ? spotOrder[place] : NONE;
        }

        int leafOf(int word) {
            return word >= 0 && word < MAX_WORDS ? leaves[word] : NONE;
        }

        int senseOf(int word) {
            return word >= 0 && word < MAX_WORDS ? senses[word] : NONE;
        }

        int writerOf(int word) {
            return word >= 0 && word < MAX_WORDS ? writers[word] : NONE;
        }

        int wordInOrder(int place) {
            return place >= 0 && place < words && place < MAX_WORDS ? wordOrder[place] : NONE;
        }

        /**
         * Brings the next number into a row of those before it. It is the greatest one, so it comes
         * right behind the one that it is behind. One row serves for all holders, or leaves: the
         * order of what belongs to one of them stays the same when others stand in between.
         */
        private static void insertBehind(int[] row, int number, int ahead) {
            if (number < 0 || number >= row.length) {
                return;
            }
            int place = number;
            while (place > 0 && row[place - 1] != ahead) {
                row[place] = row[place - 1];
                place--;
            }
            row[place] = number;
        }

        /** The number of the next node, which does not count before it is kept. */
        int planNode(int kind) {
            if (nodes >= MAX_NODES) {
                return NONE;
            }
            kinds[nodes] = kind;
            return nodes;
        }

        void keepNode() {
            if (nodes < MAX_NODES) {
                nodes++;
            }
        }

        /** The number of the next spot, which does not count before it is kept. */
        int planSpot(int node, int holder) {
            if (spots >= MAX_SPOTS) {
                return NONE;
            }
            holders[spots] = holder;
            owners[spots] = node;
            return spots;
        }

        void keepSpot(int ahead) {
            if (spots < MAX_SPOTS) {
                insertBehind(spotOrder, spots, ahead);
                spots++;
            }
        }

        int addWord(int leaf, int sense, int writer, int ahead) {
            if (words >= MAX_WORDS) {
                return NONE;
            }
            leaves[words] = leaf;
            senses[words] = sense;
            writers[words] = writer;
            insertBehind(wordOrder, words, ahead);
            words++;
            return words - 1;
        }
    }

    /** Looks up in a state who is whose child, which words a leaf has, and which rules are broken. */
    private static final class Look {
        private final Stock stock;
        private final int[] tally = new int[MAX_NODES];

        Look(Stock stock) {
            this.stock = stock;
        }

        int holderIn(State state, int node) {
            return stock.spotHolder(state.spotOf(node));
        }

        boolean isWithin(State state, int node, int top) {
            int at = node;
            for (int step = 0; step < MAX_NODES && at != NONE; step++) {
                if (at == top) {
                    return true;
                }
                at = holderIn(state, at);
            }
            return false;
        }

        /** The depth of the root or of a node that is below it; NONE of another one. */
        int depthIn(State state, int node) {
            int at = node;
            for (int depth = 0; depth < MAX_NODES && state.has(at); depth++) {
                if (at == ROOT) {
                    return depth;
                }
                at = holderIn(state, at);
            }
            return NONE;
        }

        /** How many steps a sweep through the children of a node has. */
        int sweepLength(int node) {
            switch (stock.kindOf(node)) {
                case LIST:
                    return stock.spotCount();
                case SET:
                    return stock.nodeCount();
                default:
                    return 0;
            }
        }

        /** The child that a sweep in the order of the children meets at a step; NONE if none. */
        int childMet(State state, int node, int step) {
            if (stock.kindOf(node) == SET) {
                return holderIn(state, step) == node ? step : NONE;
            }
            int spot = stock.spotInOrder(step);
            int owner = stock.ownerOf(spot);
            return stock.spotHolder(spot) == node && state.spotOf(owner) == spot ? owner : NONE;
        }

        int countChildren(State state, int node, int leftOut) {
            int count = 0;
            for (int one = 0; one < MAX_NODES; one++) {
                if (one != leftOut && holderIn(state, one) == node) {
                    count++;
                }
            }
            return count;
        }

        int childAt(State state, int node, int place, int leftOut) {
            int ahead = 0;
            int length = sweepLength(node);
            for (int step = 0; step < length; step++) {
                int child = childMet(state, node, step);
                if (child != NONE && child != leftOut) {
                    if (ahead == place) {
                        return child;
                    }
                    ahead++;
                }
            }
            return NONE;
        }

        int countWords(State state, int node) {
            int count = 0;
            for (int word = 0; word < stock.wordCount(); word++) {
                if (stock.leafOf(word) == node && state.says(word)) {
                    count++;
                }
            }
            return count;
        }

        int wordAt(State state, int node, int place) {
            int ahead = 0;
            for (int step = 0; step < stock.wordCount(); step++) {
                int word = stock.wordInOrder(step);
                if (stock.leafOf(word) == node && state.says(word)) {
                    if (ahead == place) {
                        return word;
                    }
                    ahead++;
                }
            }
            return NONE;
        }

        void hush(State state, int node) {
            for (int word = 0; word < stock.wordCount(); word++) {
                if (stock.leafOf(word) == node) {
                    state.say(word, false);
                }
            }
        }

        /** The lowest rule that a state breaks, or 0. */
        int brokenRule(State state) {
            if (hasTwins(state)) {
                return 1;
            }
            if (hasLooseAim(state)) {
                return 2;
            }
            if (isCrowded(state)) {
                return 3;
            }
            if (isTooDeep(state)) {
                return 4;
            }
            return isAdrift(state) ? 5 : 0;
        }

        private boolean hasTwins(State state) {
            Arrays.fill(tally, 0);
            for (int node = 0; node < MAX_NODES; node++) {
                int holder = holderIn(state, node);
                if (holder >= 0 && holder < MAX_NODES && stock.kindOf(holder) == SET) {
                    int tagBit = 1 << state.tagOf(node);
                    if ((tally[holder] & tagBit) != 0) {
                        return true;
                    }
                    tally[holder] |= tagBit;
                }
            }
            return false;
        }

        private boolean hasLooseAim(State state) {
            for (int node = 0; node < MAX_NODES; node++) {
                int aim = state.valueOf(node, AIMED);
                if (aim >= 0 && !state.has(aim)) {
                    return true;
                }
            }
            return false;
        }

        private boolean isCrowded(State state) {
            Arrays.fill(tally, 0);
            for (int node = 0; node < MAX_NODES; node++) {
                int holder = holderIn(state, node);
                if (holder >= 0 && holder < MAX_NODES) {
                    tally[holder]++;
                    if (tally[holder] > MAX_CHILDREN) {
                        return true;
                    }
                }
            }
            return false;
        }

        private boolean isTooDeep(State state) {
            for (int node = 0; node < MAX_NODES; node++) {
                if (depthIn(state, node) > MAX_DEPTH) {
                    return true;
                }
            }
            return false;
        }

        /** Whether some node that is there is not below the root. */
        boolean isAdrift(State state) {
            for (int node = 0; node < MAX_NODES; node++) {
                if (state.has(node) && depthIn(state, node) == NONE) {
                    return true;
                }
            }
            return false;
        }
    }

    /** The edits from a state to another one, in their order. */
    private static final class Script {
        private static final int ADDED = 0, SPOT = 1, TAG = 2, AIM = 3, CONFLICTS = 4, SAID = 5, STRUCK = 6, REMOVED = 7;
        private static final int EDIT_KINDS = 8;
        /** The sign of each kind of edit, in the order of the kinds. */
        private static final String SIGNS = "+*#@?!~-";
        private static final int CAPACITY = 4 * MAX_NODES + MAX_WORDS;

        private final int[] kinds = new int[CAPACITY];
        private final int[] numbers = new int[CAPACITY];
        private int size;

        int count() {
            return size;
        }

        int kindOf(int edit) {
            return edit >= 0 && edit < size ? kinds[edit] : NONE;
        }

        int numberOf(int edit) {
            return edit >= 0 && edit < size ? numbers[edit] : NONE;
        }

        void tell(State from, State to) {
            size = 0;
            for (int kind = 0; kind < EDIT_KINDS; kind++) {
                int limit = kind == SAID || kind == STRUCK ? MAX_WORDS : MAX_NODES;
                for (int number = 0; number < limit; number++) {
                    if (isDue(kind, number, from, to) && size < CAPACITY) {
                        kinds[size] = kind;
                        numbers[size] = number;
                        size++;
                    }
                }
            }
        }

        private static boolean isDue(int kind, int number, State from, State to) {
            boolean isInBoth = from.has(number) && to.has(number);
            switch (kind) {
                case ADDED:
                    return !from.has(number) && to.has(number);
                case SPOT:
                    return isInBoth && from.spotOf(number) != to.spotOf(number);
                case TAG:
                    return isInBoth && from.tagOf(number) != to.tagOf(number);
                case AIM:
                    return isInBoth && from.valueOf(number, AIMED) != to.valueOf(number, AIMED);
                case CONFLICTS:
                    return isInBoth && !from.hasConflictsOf(to, number);
                case SAID:
                    return !from.says(number) && to.says(number);
                case STRUCK:
                    return from.says(number) && !to.says(number);
                default:
                    return from.has(number) && !to.has(number);
            }
        }

        private static int digitsOf(int number) {
            return number < 10 ? 1 : number < 100 ? 2 : 3;
        }

        int textLength() {
            int length = 0;
            for (int edit = 0; edit < size; edit++) {
                length += 2 + digitsOf(numbers[edit]);
            }
            return length;
        }

        char textAt(int at) {
            int rest = at;
            for (int edit = 0; edit < size; edit++) {
                int length = 2 + digitsOf(numbers[edit]);
                if (rest < length) {
                    return editAt(edit, rest);
                }
                rest -= length;
            }
            return ' ';
        }

        private char editAt(int edit, int at) {
            int kind = kindOf(edit);
            int number = numberOf(edit);
            int digitsBehind = digitsOf(number) - at;
            if (at == 0) {
                return kind >= 0 && kind < SIGNS.length() ? SIGNS.charAt(kind) : ' ';
            }
            if (digitsBehind < 0) {
                return ';';
            }
            for (int i = 0; i < digitsBehind; i++) {
                number = number / 10;
            }
            return (char) ('0' + number % 10);
        }
    }

    /** One joining of two states over a third one, into a fourth one. */
    private static final class Join {
        private final Stock stock;
        private final Look look;
        private final State x;
        private final State y;
        private final State over;
        private final State out;

        Join(Look look, State x, State y, State over, State out) {
            this.stock = look.stock;
            this.look = look;
            this.x = x;
            this.y = y;
            this.over = over;
            this.out = out;
        }

        void joinAll() {
            for (int node = 0; node < MAX_NODES; node++) {
                out.drop(node);
                if (x.has(node) && y.has(node)) {
                    joinNode(node);
                } else if (x.has(node)) {
                    joinLone(node, x);
                } else if (y.has(node)) {
                    joinLone(node, y);
                }
            }
            for (int word = 0; word < MAX_WORDS; word++) {
                out.say(word, isWordSaid(word));
            }
            untieRings();
            bringHolders();
        }

        /** Comes to the same as joinAll(), but plays the script from the base to y on x. */
        void playAll(Script script) {
            out.copyFrom(x);
            for (int edit = 0; edit < script.count(); edit++) {
                int number = script.numberOf(edit);
                switch (script.kindOf(edit)) {
                    case Script.ADDED:
                        playAdded(number);
                        break;
                    case Script.SPOT:
                        playValue(number, MOVED);
                        wake(look.holderIn(y, number));
                        break;
                    case Script.TAG:
                        playValue(number, TAGGED);
                        break;
                    case Script.AIM:
                        playValue(number, AIMED);
                        break;
                    case Script.CONFLICTS:
                        playConflicts(number);
                        break;
                    case Script.SAID:
                        playWord(number, true);
                        break;
                    case Script.STRUCK:
                        playWord(number, false);
                        break;
                    case Script.REMOVED:
                        playRemoved(number);
                        break;
                    default:
                        break;
                }
            }
            untieRings();
            bringHolders();
        }

        // ---- nodes and words

        private static int taken(int b, int x, int y) {
            if (x == y || b == y) {
                return x;
            }
            return b == x ? y : Math.min(x, y);
        }

        private boolean isAtOdds(int node, int kind) {
            int b = over.valueOf(node, kind);
            int inX = x.valueOf(node, kind);
            int inY = y.valueOf(node, kind);
            return inX != inY && b != inX && b != inY;
        }

        private void joinNode(int node) {
            for (int kind = 0; kind < CONFLICT_KINDS; kind++) {
                joinValue(node, kind);
                joinConflict(node, kind);
            }
        }

        private void joinValue(int node, int kind) {
            int value = taken(over.valueOf(node, kind), x.valueOf(node, kind), y.valueOf(node, kind));
            out.setValue(node, kind, value);
        }

        private void joinConflict(int node, int kind) {
            int conflict = taken(over.conflictOf(node, kind), x.conflictOf(node, kind), y.conflictOf(node, kind));
            if (isAtOdds(node, kind)) {
                conflict = conflictWith(x.valueOf(node, kind), y.valueOf(node, kind));
            }
            out.setConflict(node, kind, conflict);
        }

        private void joinLone(int node, State alone) {
            if (!over.has(node)) {
                out.copyNode(alone, node);
            } else if (isTouched(node, alone)) {
                out.copyNode(alone, node);
                out.setConflict(node, GONE, conflictWith(0, 0));
            }
        }

        private boolean isWordSaid(int word) {
            int leaf = stock.leafOf(word);
            if (!out.has(leaf)) {
                return false;
            }
            if (x.has(leaf) && y.has(leaf) && over.says(word)) {
                return x.says(word) && y.says(word);
            }
            return x.says(word) || y.says(word);
        }

        private boolean isTouched(int node, State state) {
            for (int kind = 0; kind < CONFLICT_KINDS; kind++) {
                if (state.valueOf(node, kind) != over.valueOf(node, kind)) {
                    return true;
                }
            }
            for (int word = 0; word < stock.wordCount(); word++) {
                if (stock.leafOf(word) == node && state.says(word) != over.says(word)) {
                    return true;
                }
            }
            for (int child = 0; child < MAX_NODES; child++) {
                if (look.holderIn(state, child) == node && state.spotOf(child) != over.spotOf(child)) {
                    return true;
                }
            }
            return !state.hasConflictsOf(over, node);
        }

        // ---- rings and holders

        private void untieRings() {
            long rings = 0;
            for (int node = 0; node < MAX_NODES; node++) {
                int holder = look.holderIn(out, node);
                if (holder != NONE && look.isWithin(out, holder, node)) {
                    rings |= 1L << node;
                }
            }
            for (int node = 0; node < MAX_NODES; node++) {
                if ((rings >> node & 1) != 0) {
                    int greater = Math.max(x.spotOf(node), y.spotOf(node));
                    out.setValue(node, MOVED, over.has(node) ? over.spotOf(node) : greater);
                    out.setConflict(node, RING, conflictWith(0, 0));
                }
            }
        }

        private void bringHolders() {
            boolean isChanged = true;
            for (int round = 0; round < MAX_NODES && isChanged; round++) {
                isChanged = false;
                for (int node = 0; node < MAX_NODES; node++) {
                    int holder = look.holderIn(out, node);
                    if (holder != NONE && !out.has(holder)) {
                        bringBack(holder, x.has(holder) ? x : y.has(holder) ? y : over);
                        isChanged = true;
                    }
                }
            }
        }

        private void bringBack(int node, State source) {
            out.copyNode(source, node);
            for (int word = 0; word < stock.wordCount(); word++) {
                if (stock.leafOf(word) == node) {
                    out.say(word, source.says(word));
                }
            }
            out.setConflict(node, GONE, conflictWith(0, 0));
        }

        // ---- playing a script

        private void playAdded(int node) {
            if (x.has(node)) {
                joinNode(node);
            } else {
                out.copyNode(y, node);
            }
            wake(look.holderIn(y, node));
        }

        private void playValue(int node, int kind) {
            wake(node);
            if (x.has(node)) {
                joinValue(node, kind);
                joinConflict(node, kind);
            }
        }

        private void playConflicts(int node) {
            wake(node);
            if (x.has(node)) {
                for (int kind = 0; kind < CONFLICT_KINDS; kind++) {
                    joinConflict(node, kind);
                }
            }
        }

        private void playWord(int word, boolean isSaid) {
            int leaf = stock.leafOf(word);
            // The words of a leaf that y removes are hushed with it, if x leaves it untouched.
            if (y.has(leaf)) {
                wake(leaf);
                out.say(word, isSaid);
            }
        }

        private void playRemoved(int node) {
            if (!x.has(node)) {
                return;
            }
            if (isTouched(node, x)) {
                out.setConflict(node, GONE, conflictWith(0, 0));
            } else {
                out.drop(node);
                look.hush(out, node);
            }
        }

        /** What an edit touches in y stays, though x removes it. */
        private void wake(int node) {
            if (over.has(node) && y.has(node) && !x.has(node)) {
                bringBack(node, y);
            }
        }
    }

    /** The versions, their states and parents. */
    private static final class History {
        private final ArrayList<State> states = new ArrayList<State>();
        private final int[] firsts = new int[MAX_VERSIONS];
        private final int[] seconds = new int[MAX_VERSIONS];
        /** Of each version a bit for each one that is older. */
        private final long[] older = new long[MAX_VERSIONS];
        private final State nowhere = new State();

        int count() {
            return states.size();
        }

        boolean isFull() {
            return states.size() >= MAX_VERSIONS;
        }

        private boolean isNumber(int version) {
            return version >= 0 && version < states.size() && version < MAX_VERSIONS;
        }

        State stateOf(int version) {
            return isNumber(version) ? states.get(version) : nowhere;
        }

        int parentOf(int version, int which) {
            if (!isNumber(version)) {
                return NONE;
            }
            return which == 0 ? firsts[version] : seconds[version];
        }

        boolean isOlder(int version, int than) {
            return isNumber(version) && isNumber(than) && (older[than] >> version & 1) != 0;
        }

        /** The version and all that are older, a bit each. */
        private long lineOf(int version) {
            return isNumber(version) ? older[version] | 1L << version : 0;
        }

        int add(State state, int first, int second) {
            int version = states.size();
            if (version >= MAX_VERSIONS) {
                return NONE;
            }
            firsts[version] = first;
            seconds[version] = second;
            older[version] = lineOf(first) | lineOf(second);
            states.add(state);
            return version;
        }

        /** The last ones that are common to two versions, a bit each. */
        long lastCommon(int version, int other) {
            long common = lineOf(version) & lineOf(other);
            long last = common;
            for (int one = 0; one < MAX_VERSIONS; one++) {
                if ((common >> one & 1) != 0) {
                    last &= ~older[one];
                }
            }
            return last;
        }
    }

    /** Finds the base of two versions, which may have to be joined itself. */
    private static final class BaseFinder {
        /** Both versions of a level come before those of the level above. */
        private static final int MAX_LEVELS = MAX_VERSIONS / 2;

        private final Look look;
        private final History history;
        private final ArrayList<State> spares = new ArrayList<State>();

        BaseFinder(Look look, History history) {
            this.look = look;
            this.history = history;
        }

        private State spare(int number) {
            for (int i = spares.size(); i <= number; i++) {
                spares.add(new State());
            }
            return number >= 0 && number < spares.size() ? spares.get(number) : new State();
        }

        private static State baseOf(BaseFinder finder, int version, int other, int level) {
            History history = finder.history;
            long last = history.lastCommon(version, other);
            State base = history.stateOf(0);
            int lowest = NONE;
            int turn = 0;
            for (int one = 0; one < history.count(); one++) {
                if ((last >> one & 1) == 0) {
                    continue;
                }
                if (lowest == NONE) {
                    lowest = one;
                    base = history.stateOf(one);
                } else if (level < MAX_LEVELS) {
                    State over = baseOf(finder, lowest, one, level + 1);
                    // Two spares a level: what came of the joining before is joined into the other one.
                    State out = finder.spare(2 * level + turn);
                    turn = 1 - turn;
                    new Join(finder.look, base, history.stateOf(one), over, out).joinAll();
                    base = out;
                }
            }
            return base;
        }
    }

    /** Finds the prints, or the faces, of nodes. */
    private static final class Printer {
        private final Stock stock;
        private final Look look;
        private final int[] depths = new int[MAX_NODES];

        Printer(Stock stock, Look look) {
            this.stock = stock;
            this.look = look;
        }

        /** Fills a row with the prints, or the faces, of the root and of each node that is below it. */
        void fill(State state, boolean isFace, long[] row) {
            int deepest = 0;
            for (int node = 0; node < MAX_NODES; node++) {
                depths[node] = look.depthIn(state, node);
                deepest = Math.max(deepest, depths[node]);
            }
            for (int depth = deepest; depth >= 0; depth--) {
                for (int node = 0; node < MAX_NODES && node < row.length; node++) {
                    if (depths[node] == depth) {
                        row[node] = printOf(state, node, isFace, row);
                    }
                }
            }
        }

        /** The print of a node by those of its children, which the row has. */
        private long printOf(State state, int node, boolean isFace, long[] row) {
            long p = 17;
            p = 31 * p + stock.kindOf(node);
            p = 31 * p + state.tagOf(node);
            p = 31 * p + (isFace ? 0 : state.valueOf(node, AIMED) + 1);
            p = withWords(p, state, node);
            int length = look.sweepLength(node);
            for (int step = 0; step < length; step++) {
                int child = look.childMet(state, node, step);
                if (child >= 0 && child < row.length) {
                    p = 31 * p + row[child];
                }
            }
            for (int kind = 0; kind < CONFLICT_KINDS; kind++) {
                p = 31 * p + (isFace ? 0 : conflictPrint(state.conflictOf(node, kind), kind));
            }
            return p;
        }

        private long withWords(long before, State state, int node) {
            long p = before;
            if (stock.kindOf(node) != LEAF) {
                return p;
            }
            for (int step = 0; step < stock.wordCount(); step++) {
                int word = stock.wordInOrder(step);
                if (stock.leafOf(word) == node && state.says(word)) {
                    p = 31 * p + stock.senseOf(word) + 1;
                }
            }
            return p;
        }

        private static int conflictPrint(int conflict, int kind) {
            if (conflict == NO_CONFLICT) {
                return 0;
            }
            return kind == GONE || kind == RING ? 1 : 1000 * optionOf(conflict, 0) + optionOf(conflict, 1) + 2;
        }
    }

    /** Matches the nodes of two states, whatever their numbers. */
    private static final class Matcher {
        private final Stock stock;
        private final Look look;
        private final Printer printer;
        private final long[] firstFaces = new long[MAX_NODES];
        private final long[] secondFaces = new long[MAX_NODES];
        private final boolean[] isFirstFaced = new boolean[MAX_NODES];
        private final boolean[] isSecondFaced = new boolean[MAX_NODES];
        private final int[] partners = new int[MAX_NODES];

        Matcher(Stock stock, Look look, Printer printer) {
            this.stock = stock;
            this.look = look;
            this.printer = printer;
        }

        int partnerOf(int node) {
            return node >= 0 && node < MAX_NODES ? partners[node] : NONE;
        }

        int countPairs() {
            int count = 0;
            for (int node = 0; node < MAX_NODES; node++) {
                if (partners[node] != NONE) {
                    count++;
                }
            }
            return count;
        }

        void pair(State first, State second) {
            Arrays.fill(partners, NONE);
            partners[ROOT] = ROOT;
            printer.fill(first, true, firstFaces);
            printer.fill(second, true, secondFaces);
            pairByFace(first, second);
            // A holder has to be paired before its children are.
            for (int depth = 1; depth < MAX_NODES; depth++) {
                for (int node = 0; node < MAX_NODES; node++) {
                    if (!isFirstFaced[node] && look.depthIn(first, node) == depth) {
                        int holder = look.holderIn(first, node);
                        int turn = turnOf(first, holder, node);
                        partners[node] = childInTurn(second, partnerOf(holder), turn, stock.kindOf(node), first.tagOf(node));
                    }
                }
            }
        }

        private void pairByFace(State first, State second) {
            for (int node = 0; node < MAX_NODES; node++) {
                isFirstFaced[node] = false;
                isSecondFaced[node] = false;
            }
            for (int node = 1; node < MAX_NODES; node++) {
                if (first.has(node) && loneWithFace(first, firstFaces, firstFaces[node]) == node) {
                    int partner = loneWithFace(second, secondFaces, firstFaces[node]);
                    if (partner >= 0 && partner < MAX_NODES) {
                        partners[node] = partner;
                        isFirstFaced[node] = true;
                        isSecondFaced[partner] = true;
                    }
                }
            }
        }

        /** The only node with a face, the root left out; NONE if there is none, or more than one. */
        private static int loneWithFace(State state, long[] faces, long face) {
            int found = NONE;
            for (int node = 1; node < MAX_NODES && node < faces.length; node++) {
                if (state.has(node) && faces[node] == face) {
                    if (found != NONE) {
                        return NONE;
                    }
                    found = node;
                }
            }
            return found;
        }

        /** How many children that can be taken for a node are ahead of it. */
        private int turnOf(State first, int holder, int node) {
            int turn = 0;
            int length = look.sweepLength(holder);
            for (int step = 0; step < length; step++) {
                int child = look.childMet(first, holder, step);
                if (child == node) {
                    return turn;
                }
                if (child >= 0 && child < MAX_NODES && !isFirstFaced[child]
                        && stock.kindOf(child) == stock.kindOf(node) && first.tagOf(child) == first.tagOf(node)) {
                    turn++;
                }
            }
            return turn;
        }

        private int childInTurn(State second, int holder, int turn, int kind, int tag) {
            int ahead = 0;
            int length = look.sweepLength(holder);
            for (int step = 0; step < length; step++) {
                int child = look.childMet(second, holder, step);
                if (child >= 0 && child < MAX_NODES && !isSecondFaced[child]
                        && stock.kindOf(child) == kind && second.tagOf(child) == tag) {
                    if (ahead == turn) {
                        return child;
                    }
                    ahead++;
                }
            }
            return NONE;
        }
    }
}
