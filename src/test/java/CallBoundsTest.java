/**
 * What the document says under "Exceptions", held for each call and each of its arguments, and the
 * bounds that the promises name themselves: the first and the last place, nothing to do, all there is.
 */
public final class CallBoundsTest {
    private static final int NONE = Threewayleaf.NONE;
    private static final int LIST = Threewayleaf.LIST, SET = Threewayleaf.SET, LEAF = Threewayleaf.LEAF, LINK = Threewayleaf.LINK;
    private static final int MOVED = Threewayleaf.MOVED, TAGGED = Threewayleaf.TAGGED, AIMED = Threewayleaf.AIMED, GONE = Threewayleaf.GONE, RING = Threewayleaf.RING;
    private static final int LEAST = Integer.MIN_VALUE, GREATEST = Integer.MAX_VALUE;

    /** A call with one argument that is left open. */
    private interface Of {
        void call(int value);
    }

    /** Beyond the last version and the last desk of ready(), and as far as numbers go. */
    private static final int[] NO_VIEW = {-4, -5, -6, LEAST, LEAST + 1, GREATEST, GREATEST - 1, 40};

    /**
     * Branches 0 to 2 and versions 0 to 4. At the desk 0: the LIST 1 with the LEAF 3 (saying 50, 51) and
     * the LINK 4, the SET 2 with the LEAF 5; 3 has TAGGED, 2 and 5 have GONE, 5 has been moved. The node 6
     * was put at the desk 1, the node 7 was removed.
     */
    private static Threewayleaf ready() {
        Threewayleaf x = new Threewayleaf();
        x.put(0, 0, 0, LIST, 1);
        x.put(0, 0, 1, SET, 2);
        x.put(0, 1, 0, LEAF, 3);
        x.put(0, 1, 1, LINK, 4);
        x.put(0, 2, 0, LEAF, 5);
        x.write(0, 3, 0, 50);
        x.write(0, 3, 1, 51);
        x.commit(0);
        x.fork(1);
        x.fork(1);
        x.retag(0, 3, 7);
        x.retag(1, 3, 8);
        x.retag(0, 2, 9);
        x.retag(0, 5, 6);
        x.remove(1, 2);
        x.commit(0);
        x.commit(1);
        x.merge(0, 3);
        x.move(0, 5, 2, 0);
        x.put(1, 0, 0, LEAF, 0);
        x.put(0, 0, 0, LEAF, 0);
        x.remove(0, 7);
        Check.due("versions", x.versions(), 5);
        Check.due("conflicts", x.conflicts(-1), 3);
        return x;
    }

    private static void each(String what, Threewayleaf x, Class<?> want, int[] values, Of call) {
        for (int value : values) {
            Check.refused(what + ": " + value, x, want, () -> call.call(value));
        }
    }

    /** "IndexOutOfBoundsException: there is no such branch": whatever else is wrong, too. */
    private static void noSuchBranch() {
        Threewayleaf x = ready();
        int[] none = {3, 4, 5, -1, LEAST, GREATEST};
        each("put", x, Check.INDEX, none, b -> x.put(b, 9, 9, 9, 99));
        each("put, all else is well", x, Check.INDEX, none, b -> x.put(b, 0, 0, LIST, 1));
        each("remove", x, Check.INDEX, none, b -> x.remove(b, 0));
        each("move", x, Check.INDEX, none, b -> x.move(b, 0, 3, 9));
        each("retag", x, Check.INDEX, none, b -> x.retag(b, 3, 99));
        each("aim", x, Check.INDEX, none, b -> x.aim(b, 3, 4));
        each("write", x, Check.INDEX, none, b -> x.write(b, 1, 9, 999));
        each("strike", x, Check.INDEX, none, b -> x.strike(b, 3, 0));
        each("settle", x, Check.INDEX, none, b -> x.settle(b, 1, 9, 9));
        each("commit", x, Check.INDEX, none, b -> x.commit(b));
        each("reset", x, Check.INDEX, none, b -> x.reset(b));
        each("merge", x, Check.INDEX, none, b -> x.merge(b, 2));
        each("pick", x, Check.INDEX, none, b -> x.pick(b, 0));
        each("revert", x, Check.INDEX, none, b -> x.revert(b, 0));
        each("head", x, Check.INDEX, none, b -> x.head(b));
        each("isClean", x, Check.INDEX, none, b -> x.isClean(b));
    }

    /** ".. no such version .." */
    private static void noSuchVersion() {
        Threewayleaf x = ready();
        int[] none = {5, 39, 40, -1, -2, LEAST, GREATEST};
        each("fork", x, Check.INDEX, none, v -> x.fork(v));
        each("merge", x, Check.INDEX, none, v -> x.merge(2, v));
        each("merge, not clean", x, Check.INDEX, none, v -> x.merge(0, v));
        each("pick", x, Check.INDEX, none, v -> x.pick(2, v));
        each("pick, not clean", x, Check.INDEX, none, v -> x.pick(0, v));
        each("revert", x, Check.INDEX, none, v -> x.revert(2, v));
        each("revert, not clean", x, Check.INDEX, none, v -> x.revert(0, v));
        each("against", x, Check.INDEX, none, v -> x.against(v, 1));
        each("against, the other one", x, Check.INDEX, none, v -> x.against(1, v));
        each("parent", x, Check.INDEX, none, v -> x.parent(v, 9));
        each("bases", x, Check.INDEX, none, v -> x.bases(v, 1));
        each("bases, the other one", x, Check.INDEX, none, v -> x.bases(1, v));
        each("joined", x, Check.INDEX, none, v -> x.joined(v, 1));
        each("joined, the other one", x, Check.INDEX, none, v -> x.joined(1, v));
        each("joinedByScript", x, Check.INDEX, none, v -> x.joinedByScript(v, 1));
        each("joinedByScript, the other one", x, Check.INDEX, none, v -> x.joinedByScript(1, v));
    }

    /** ".. no such view .." */
    private static void noSuchView() {
        Threewayleaf x = ready();
        each("isThere", x, Check.INDEX, NO_VIEW, v -> x.isThere(v, 0));
        each("holder", x, Check.INDEX, NO_VIEW, v -> x.holder(v, 0));
        each("children", x, Check.INDEX, NO_VIEW, v -> x.children(v, 0));
        each("child", x, Check.INDEX, NO_VIEW, v -> x.child(v, 0, 0));
        each("tag", x, Check.INDEX, NO_VIEW, v -> x.tag(v, 0));
        each("aimOf", x, Check.INDEX, NO_VIEW, v -> x.aimOf(v, 0));
        each("words", x, Check.INDEX, NO_VIEW, v -> x.words(v, 0));
        each("word", x, Check.INDEX, NO_VIEW, v -> x.word(v, 3, 0));
        each("conflicts", x, Check.INDEX, NO_VIEW, v -> x.conflicts(v));
        each("option", x, Check.INDEX, NO_VIEW, v -> x.option(v, 3, 9, 9));
        each("print", x, Check.INDEX, NO_VIEW, v -> x.print(v));
        each("edits", x, Check.INDEX, NO_VIEW, v -> x.edits(v, 0));
        each("edits, the other one", x, Check.INDEX, NO_VIEW, v -> x.edits(0, v));
        each("scriptAt", x, Check.INDEX, NO_VIEW, v -> x.scriptAt(v, 0, -1));
        each("scriptAt, the other one", x, Check.INDEX, NO_VIEW, v -> x.scriptAt(0, v, -1));
        each("match", x, Check.INDEX, NO_VIEW, v -> x.match(v, 0, 0));
        each("match, the other one", x, Check.INDEX, NO_VIEW, v -> x.match(0, 0, v));
        each("likeness", x, Check.INDEX, NO_VIEW, v -> x.likeness(v, 0));
        each("likeness, the other one", x, Check.INDEX, NO_VIEW, v -> x.likeness(0, v));
    }

    /** ".. no such .. node ..; for a node also if it is not there in the state that is asked" */
    private static void noSuchNodeAtTheDesk() {
        Threewayleaf x = ready();
        int[] none = {6, 7, 8, 39, 40, -1, -2, LEAST, GREATEST};
        each("put", x, Check.INDEX, none, n -> x.put(0, n, 9, 9, 99));
        each("remove", x, Check.INDEX, none, n -> x.remove(0, n));
        each("move", x, Check.INDEX, none, n -> x.move(0, n, 1, 9));
        each("move, parent", x, Check.INDEX, none, n -> x.move(0, 0, n, 9));
        each("retag", x, Check.INDEX, none, n -> x.retag(0, n, 99));
        each("aim", x, Check.INDEX, none, n -> x.aim(0, n, 0));
        each("write", x, Check.INDEX, none, n -> x.write(0, n, 9, 999));
        each("strike", x, Check.INDEX, none, n -> x.strike(0, n, 0));
        each("settle", x, Check.INDEX, none, n -> x.settle(0, n, 9, 9));
        int[] noAim = {6, 7, 8, 39, 40, -2, -3, LEAST, GREATEST};
        each("aim at it", x, Check.INDEX, noAim, n -> x.aim(0, 4, n));
        each("aim at it, no LINK", x, Check.INDEX, noAim, n -> x.aim(0, 3, n));
    }

    private static void noSuchNodeInAView() {
        Threewayleaf x = ready();
        int[] none = {6, 7, 8, 39, 40, -1, -2, LEAST, GREATEST};
        for (int view : new int[] {-1, 4, 0}) {
            each("holder", x, Check.INDEX, none, n -> x.holder(view, n));
            each("children", x, Check.INDEX, none, n -> x.children(view, n));
            each("child", x, Check.INDEX, none, n -> x.child(view, n, 0));
            each("tag", x, Check.INDEX, none, n -> x.tag(view, n));
            each("aimOf", x, Check.INDEX, none, n -> x.aimOf(view, n));
            each("words", x, Check.INDEX, none, n -> x.words(view, n));
            each("word", x, Check.INDEX, none, n -> x.word(view, n, 0));
            each("option", x, Check.INDEX, none, n -> x.option(view, n, 9, 9));
            each("match", x, Check.INDEX, none, n -> x.match(view, n, -2));
        }
        Check.due("it is asked in the first one alone", x.match(-2, 6, 0), NONE);
        int[] unknown = {8, 9, 39, 40, -1, LEAST, GREATEST};
        each("kind", x, Check.INDEX, unknown, n -> x.kind(n));
        each("isThere", x, Check.INDEX, unknown, n -> x.isThere(-1, n));
        each("isThere in a version", x, Check.INDEX, unknown, n -> x.isThere(0, n));
        Check.due("put at another desk", x.isThere(-1, 6), false);
        Check.due("removed", x.isThere(-1, 7), false);
        Check.due("put later on", x.isThere(0, 5), false);
        Check.due("the last one that was put", x.kind(7), LEAF);
    }

    /** ".. or word place"; "of the place" */
    private static void noSuchWordPlace() {
        Threewayleaf x = ready();
        int[] none = {2, 3, -1, LEAST, GREATEST};
        each("strike", x, Check.INDEX, none, p -> x.strike(0, 3, p));
        each("word", x, Check.INDEX, none, p -> x.word(-1, 3, p));
        each("strike of a LEAF that says nothing", x, Check.INDEX, new int[] {0, 1, -1}, p -> x.strike(0, 5, p));
        each("word of a LEAF that says nothing", x, Check.INDEX, new int[] {0, 1, -1}, p -> x.word(-1, 5, p));
        for (int node : new int[] {0, 1, 2, 4}) {
            Check.refused("strike of what is no LEAF", x, Check.INDEX, () -> x.strike(0, node, 0));
            Check.refused("word of what is no LEAF", x, Check.INDEX, () -> x.word(-1, node, 0));
            Check.due("it has none", x.words(-1, node), 0);
        }
        Check.due("the first one", x.word(-1, 3, 0), 500);
        Check.due("the last one", x.strike(0, 3, 1), 51);
        Check.refused("not so many any more", x, Check.INDEX, () -> x.strike(0, 3, 1));
        Check.due("the first one is the last one", x.strike(0, 3, 0), 50);
        Check.refused("none any more", x, Check.INDEX, () -> x.strike(0, 3, 0));
        each("child below 0", x, Check.INDEX, new int[] {-1, -2, LEAST}, p -> x.child(-1, 0, p));
        each("child of a LEAF below 0", x, Check.INDEX, new int[] {-1, LEAST}, p -> x.child(-1, 3, p));
    }

    /** "IllegalArgumentException: another argument is out of its range", ahead of what else forbids the call. */
    private static void outOfRange() {
        Threewayleaf x = ready();
        int[] noKind = {-1, 4, 5, LEAST, GREATEST};
        int[] noTag = {-1, 10, LEAST, GREATEST};
        int[] noConflict = {-1, 5, 6, LEAST, GREATEST};
        int[] noChoice = {-1, 2, LEAST, GREATEST};
        each("put: kind", x, Check.ARGUMENT, noKind, k -> x.put(0, 0, 0, k, 1));
        each("put: kind, into a LEAF", x, Check.ARGUMENT, noKind, k -> x.put(0, 3, 0, k, 1));
        each("put: tag", x, Check.ARGUMENT, noTag, t -> x.put(0, 0, 0, LIST, t));
        each("put: tag, into a LINK", x, Check.ARGUMENT, noTag, t -> x.put(0, 4, 0, LIST, t));
        each("retag", x, Check.ARGUMENT, noTag, t -> x.retag(0, 5, t));
        each("write: sense", x, Check.ARGUMENT, new int[] {-1, 100, LEAST, GREATEST}, s -> x.write(0, 3, 0, s));
        each("write: sense, no LEAF", x, Check.ARGUMENT, new int[] {-1, 100}, s -> x.write(0, 1, 0, s));
        each("settle: kind", x, Check.ARGUMENT, noConflict, k -> x.settle(0, 3, k, 0));
        each("settle: choice", x, Check.ARGUMENT, noChoice, c -> x.settle(0, 3, TAGGED, c));
        each("settle: choice, no such conflict", x, Check.ARGUMENT, noChoice, c -> x.settle(0, 3, MOVED, c));
        each("option: kind", x, Check.ARGUMENT, noConflict, k -> x.option(-1, 3, k, 0));
        each("option: which", x, Check.ARGUMENT, noChoice, w -> x.option(-1, 3, TAGGED, w));
        each("option: which, no such conflict", x, Check.ARGUMENT, noChoice, w -> x.option(-1, 3, RING, w));
        each("parent: which", x, Check.ARGUMENT, noChoice, w -> x.parent(4, w));
    }

    /** "place: 0 to the number of children of parent", "the node itself left out", "0 to the number of words of the LEAF" */
    private static void placesOutOfRange() {
        Threewayleaf x = ready();
        each("put", x, Check.ARGUMENT, new int[] {-1, 3, LEAST, GREATEST}, p -> x.put(0, 0, p, LIST, 1));
        each("put into a SET", x, Check.ARGUMENT, new int[] {-1, 2}, p -> x.put(0, 2, p, LEAF, 5));
        each("put into a LEAF", x, Check.ARGUMENT, new int[] {-1, 1}, p -> x.put(0, 3, p, LEAF, 5));
        each("move within", x, Check.ARGUMENT, new int[] {-1, 2, LEAST, GREATEST}, p -> x.move(0, 1, 0, p));
        each("move elsewhere", x, Check.ARGUMENT, new int[] {-1, 3}, p -> x.move(0, 5, 0, p));
        each("move the root", x, Check.ARGUMENT, new int[] {-1, 3}, p -> x.move(0, 0, 1, p));
        each("move into itself", x, Check.ARGUMENT, new int[] {-1, 3}, p -> x.move(0, 1, 1, p));
        each("move below itself", x, Check.ARGUMENT, new int[] {-1, 1}, p -> x.move(0, 1, 3, p));
        each("write", x, Check.ARGUMENT, new int[] {-1, 3, LEAST, GREATEST}, p -> x.write(0, 3, p, 1));
        each("write to what is no LEAF", x, Check.ARGUMENT, new int[] {-1, 1}, p -> x.write(0, 2, p, 1));
        Check.refused("move the root, all else is well", x, Check.STATE, () -> x.move(0, 0, 1, 2));
        Check.refused("move into itself", x, Check.STATE, () -> x.move(0, 1, 1, 2));
        Check.refused("move into a LEAF below itself", x, Check.STATE, () -> x.move(0, 1, 3, 0));
        Check.refused("move into a LINK", x, Check.STATE, () -> x.move(0, 3, 4, 0));
        x.move(0, 5, 0, 2);
        Check.due("the last place of others", Check.childrenOf(x, -1, 0), "1,2,5,");
        x.move(0, 1, 0, 2);
        Check.due("the last place", Check.childrenOf(x, -1, 0), "2,5,1,");
        x.move(0, 1, 0, 0);
        Check.due("the first place", Check.childrenOf(x, -1, 0), "1,2,5,");
        Check.due("the last word", x.write(0, 3, 2, 52), 3);
        Check.due("the first word", x.write(0, 3, 0, 49), 4);
        Check.due("all of them", Check.sensesOf(x, -1, 3), "49,50,51,52,");
    }

    /** "NoSuchElementException" of conflicts, ahead of what else forbids it. */
    private static void noSuchConflict() {
        Threewayleaf x = ready();
        for (int node = 0; node <= 5; node++) {
            for (int kind = MOVED; kind <= RING; kind++) {
                boolean isOne = node == 3 && kind == TAGGED || (node == 2 || node == 5) && kind == GONE;
                if (!isOne) {
                    int of = node;
                    int asked = kind;
                    Check.refused("settle", x, Check.ELEMENT, () -> x.settle(0, of, asked, 1));
                    Check.refused("option", x, Check.ELEMENT, () -> x.option(-1, of, asked, 1));
                }
            }
        }
    }

    // ---- bounds of single promises

    /** Promise 3: "Returns how many these are." */
    private static void removeCountsItselfAndAllBelow() {
        Threewayleaf x = ready();
        Check.due("one", x.remove(0, 5), 1);
        Check.due("three", x.remove(0, 1), 3);
        Check.due("an empty SET", x.remove(0, 2), 1);
        Check.due("none is left", x.children(-1, 0), 0);
        Check.due("no conflicts either", x.conflicts(-1), 0);
        Check.refused("the root alone can't be", x, Check.STATE, () -> x.remove(0, 0));
        x.reset(0);
        int deep = 2;
        for (int i = 0; i < 7; i++) {
            deep = x.put(0, deep, 0, LIST, 0);
        }
        Check.due("all in depth", x.remove(0, 2), 9);
    }

    /** Promises 5 and 6: nothing changes, but it is no wrong call. */
    private static void theSameAgain() {
        Threewayleaf x = ready();
        x.commit(0);
        Check.due("the same tag", x.retag(0, 5, 6), 6);
        Check.due("the same aim", x.aim(0, 4, NONE), NONE);
        Check.due("clean still", x.isClean(0), true);
        Check.due("nothing to take back", x.reset(0), 0);
        Check.due("no edits", x.edits(-1, x.head(0)), 0);
        Check.fails("no script", Check.ELEMENT, () -> x.scriptAt(-1, x.head(0), 0));
    }

    /** Promise 9: "With MOVED the node gets one of both spots, .. by the choice", whatever it has then. */
    private static void settlingByChoice() {
        for (int choice = 0; choice <= 1; choice++) {
            Threewayleaf x = new Threewayleaf();
            x.put(0, 0, 0, LIST, 1);
            x.put(0, 0, 1, LIST, 2);
            x.put(0, 0, 2, LINK, 3);
            x.commit(0);
            x.fork(1);
            for (int branch = 0; branch <= 1; branch++) {
                x.move(branch, 3, 1 + branch, 0);
                x.retag(branch, 3, 8 - branch);
                x.aim(branch, 3, 1 + branch);
                x.commit(branch);
            }
            x.merge(0, 3);
            x.move(0, 3, 0, 0);
            x.retag(0, 3, 0);
            x.aim(0, 3, NONE);
            x.settle(0, 3, MOVED, choice);
            x.settle(0, 3, TAGGED, choice);
            x.settle(0, 3, AIMED, choice);
            Check.due("one of both spots", x.holder(-1, 3), 1 + choice);
            Check.due("one of both tags", x.tag(-1, 3), 7 + choice);
            Check.due("one of both aims", x.aimOf(-1, 3), 1 + choice);
            Check.due("all are gone then", x.conflicts(-1), 0);
            for (int kind = MOVED; kind <= AIMED; kind++) {
                int settled = kind;
                Check.refused("settled", x, Check.ELEMENT, () -> x.settle(0, 3, settled, 0));
            }
        }
    }

    /** "with GONE it is removed with all that are below it (0) or stays (1); with RING nothing else happens" */
    private static void settlingWhatIsGone() {
        Threewayleaf x = ready();
        String before = Check.scriptOf(x, 0, -1);
        x.settle(0, 2, GONE, 1);
        Check.due("it stays, and all that are below it", Check.scriptOf(x, 0, -1), before);
        Check.due("the conflict is gone", x.conflicts(-1), 2);
        Check.refused("settled", x, Check.ELEMENT, () -> x.settle(0, 2, GONE, 0));
        x.reset(0);
        x.settle(0, 2, GONE, 0);
        Check.due("it is removed", x.isThere(-1, 2), false);
        Check.due("all that are below it, too", x.isThere(-1, 5), false);
        Check.due("what is not stays", Check.childrenOf(x, -1, 0), "1,");
        Check.due("the conflict of another one stays", x.conflicts(-1), 1);
        Check.refused("it is not there", x, Check.INDEX, () -> x.settle(0, 2, GONE, 0));
    }

    private static void settlingARing() {
        for (int choice = 0; choice <= 1; choice++) {
            Threewayleaf x = new Threewayleaf();
            x.put(0, 0, 0, LIST, 1);
            x.put(0, 0, 1, LIST, 2);
            x.commit(0);
            x.fork(1);
            x.move(0, 1, 2, 0);
            x.move(1, 2, 1, 0);
            x.commit(0);
            x.commit(1);
            x.merge(0, 3);
            x.settle(0, 2, RING, choice);
            Check.due("a conflict less", Check.scriptOf(x, 4, -1), "?2;");
            Check.due("nothing else", Check.childrenOf(x, -1, 0), "1,2,");
            x.settle(0, 1, RING, choice);
            Check.due("none", x.conflicts(-1), 0);
        }
    }

    /** Promise 11: "Returns how many edits the script from the desk to the head has." */
    private static void resetCountsEdits() {
        Threewayleaf x = ready();
        Check.due("a spot", x.reset(0), 1);
        Check.due("nothing", x.reset(0), 0);
        x.settle(0, 3, TAGGED, 1);
        Check.due("a tag and a conflict", x.reset(0), 2);
        x.settle(0, 3, TAGGED, 0);
        Check.due("a conflict alone", x.reset(0), 1);
        x.remove(0, 1);
        Check.due("three nodes and two words", x.reset(0), 5);
        Check.due("all is back", Check.scriptOf(x, 4, -1), "");
        Check.due("the conflict, too", x.option(-1, 3, TAGGED, 0), 7);
    }

    /** Promise 13: "If it is the head or older than the head, nothing happens; if the head is older than it, it becomes the head" */
    private static void mergeWithoutJoining() {
        Threewayleaf x = ready();
        Check.refused("not clean: the head itself", x, Check.STATE, () -> x.merge(0, 4));
        Check.refused("not clean: older", x, Check.STATE, () -> x.merge(0, 0));
        Check.refused("not clean: the head is older", x, Check.STATE, () -> x.merge(1, 4));
        x.reset(0);
        Check.due("the head itself", x.merge(0, 4), 4);
        Check.due("older", x.merge(0, 0), 4);
        x.reset(1);
        Check.due("the head is older", x.merge(1, 4), 4);
        Check.due("the desk is its state", Check.scriptOf(x, 4, -2), "");
        Check.due("no version was made", x.versions(), 5);
    }

    /** Promises 14 and 15: the first and the last version, and the head itself. */
    private static void pickAndRevertOfTheHead() {
        Threewayleaf x = new Threewayleaf();
        Check.refused("pick: no parent", x, Check.STATE, () -> x.pick(0, 0));
        Check.refused("revert: no parent", x, Check.STATE, () -> x.revert(0, 0));
        x.put(0, 0, 0, LEAF, 1);
        Check.refused("pick: no parent, and not clean", x, Check.STATE, () -> x.pick(0, 0));
        x.write(0, 1, 0, 5);
        x.commit(0);
        x.retag(0, 1, 2);
        x.commit(0);
        Check.due("pick of the head", x.pick(0, 2), 3);
        Check.due("is the same once more", x.edits(2, 3), 0);
        Check.due("revert of the head", x.revert(0, 3), 4);
        Check.due("which changed nothing", x.edits(3, 4), 0);
        Check.due("revert of what changed", x.revert(0, 2), 5);
        Check.due("is as ahead of it", x.edits(1, 5), 0);
        Check.due("revert of the first one", x.revert(0, 1), 6);
        Check.due("is as the version 0", x.edits(0, 6), 0);
        Check.due("pick of it", x.pick(0, 1), 7);
        Check.due("is as it was", x.edits(1, 7), 0);
        Check.due("the head as the parent", x.parent(7, 0) * 10 + x.parent(7, 1), 59);
    }

    /** "over the first parent of the version": what a joined version changed is what came from its second parent. */
    private static void pickAndRevertOfAJoinedVersion() {
        Threewayleaf x = new Threewayleaf();
        x.put(0, 0, 0, LEAF, 1);
        x.put(0, 0, 1, LEAF, 2);
        x.commit(0);
        x.fork(1);
        x.fork(1);
        x.retag(0, 1, 7);
        x.retag(1, 2, 8);
        x.commit(0);
        x.commit(1);
        x.merge(0, 3);
        Check.due("pick", x.pick(2, 4), 5);
        Check.due("the second parent's change alone", x.tag(5, 1) * 10 + x.tag(5, 2), 18);
        Check.due("revert", x.revert(0, 4), 6);
        Check.due("the first parent's change alone", x.tag(6, 1) * 10 + x.tag(6, 2), 72);
        Check.due("one parent", x.parent(6, 0) * 10 + x.parent(6, 1), 39);
    }

    /** Promise 26: "NONE if there are not so many" */
    private static void childrenUpToTheLast() {
        Threewayleaf x = new Threewayleaf();
        Check.due("none at all", x.child(0, 0, 0), NONE);
        for (int i = 0; i < 8; i++) {
            x.put(0, 0, i, LEAF, i);
        }
        Check.due("all", x.children(-1, 0), 8);
        for (int place = 0; place < 8; place++) {
            Check.due("the child", x.child(-1, 0, place), 1 + place);
        }
        for (int place : new int[] {8, 9, 120, GREATEST}) {
            Check.due("not so many", x.child(-1, 0, place), NONE);
            Check.due("not so many of a LEAF", x.child(-1, 1, place), NONE);
        }
    }

    /** Promise 32: "0 of GONE and RING" for both of which. */
    private static void optionsOfBoth() {
        Threewayleaf x = ready();
        Check.due("gone", x.option(-1, 2, GONE, 0), 0);
        Check.due("gone, the other one", x.option(-1, 2, GONE, 1), 0);
        Check.due("tag", x.option(-1, 3, TAGGED, 0), 7);
        Check.due("tag, the other one", x.option(-1, 3, TAGGED, 1), 8);
        Check.fails("not in a version ahead", Check.ELEMENT, () -> x.option(3, 3, TAGGED, 0));
        Check.fails("not there in a version ahead", Check.INDEX, () -> x.option(3, 2, GONE, 0));
    }

    // ---- scripts and likeness

    /** Promise 37: "if the text has no such char, or at is below 0" */
    private static void charsUpToTheLast() {
        Threewayleaf x = ready();
        String text = "+1;+2;+3;+4;+5;!0;!1;";
        for (int at = 0; at < text.length(); at++) {
            Check.due("the char", x.scriptAt(0, 1, at), text.charAt(at));
        }
        Check.due("the edits", x.edits(0, 1), 7);
        for (int at : new int[] {text.length(), text.length() + 1, -1, LEAST, GREATEST}) {
            Check.fails("no char " + at, Check.ELEMENT, () -> x.scriptAt(0, 1, at));
        }
        for (int at : new int[] {0, -1}) {
            Check.fails("of a view and itself none", Check.ELEMENT, () -> x.scriptAt(-1, -1, at));
        }
    }

    /** The longest script: all nodes and all words. */
    private static void theLongestScript() {
        Threewayleaf x = new Threewayleaf();
        StringBuilder text = new StringBuilder();
        for (int node = 1; node <= 39; node++) {
            x.put(0, (node - 1) / 8, 0, node <= 5 ? LIST : LEAF, node % 8);
            text.append('+').append(node).append(';');
        }
        for (int word = 0; word < 120; word++) {
            x.write(0, 6 + word % 34, 0, 1);
            text.append('!').append(word).append(';');
        }
        Check.due("all that is put and written", Check.scriptOf(x, 0, -1), text.toString());
        Check.due("edits", x.edits(0, -1), 159);
        Check.due("as many to take it back", x.edits(-1, 0), 159);
        Check.due("its last char but two", x.scriptAt(-1, 0, text.length() - 2), '9');
        Check.fails("no char behind", Check.ELEMENT, () -> x.scriptAt(-1, 0, text.length()));
        Check.due("all are like themselves", x.likeness(-1, -1), 40);
        Check.due("the root alone", x.likeness(-1, 0), 1);
        Check.due("reset tells them", x.reset(0), 159);
    }

    /** Each kind of edit of each of 39 nodes at once: a script can have more edits than there are nodes and words. */
    private static void theScriptOfAllThatDiffers() {
        Threewayleaf x = new Threewayleaf();
        for (int node = 1; node <= 39; node++) {
            x.put(0, (node - 1) / 8, (node - 1) % 8, node <= 5 ? LIST : LINK, 0);
        }
        x.commit(0);
        x.fork(1);
        for (int branch = 0; branch <= 1; branch++) {
            for (int node = 0; node <= 39; node++) {
                x.retag(branch, node, 1 + branch);
                if (node > 5) {
                    x.aim(branch, node, branch);
                    x.move(branch, node, (node - 1) / 8, 0);
                }
            }
            x.commit(branch);
        }
        x.merge(1, 2);
        StringBuilder text = new StringBuilder();
        tellNodes(text, '*', 6, 39);
        tellNodes(text, '#', 0, 39);
        tellNodes(text, '@', 6, 39);
        tellNodes(text, '?', 0, 39);
        Check.due("from the base", Check.scriptOf(x, 1, 4), text.toString());
        Check.due("edits", x.edits(1, 4), 34 + 40 + 34 + 40);
        Check.due("conflicts", x.conflicts(4), 34 + 40 + 34);
        Check.due("back", x.edits(4, 1), 148);
    }

    private static void tellNodes(StringBuilder text, char sign, int first, int last) {
        for (int node = first; node <= last; node++) {
            text.append(sign).append(node).append(';');
        }
    }

    /** Promise 38: "if in each of both views just one node that is no root has this face" */
    private static void facesOfOneAlone() {
        Threewayleaf x = new Threewayleaf();
        x.fork(0);
        int list = x.put(0, 0, 0, LIST, 1);
        int one = x.put(0, list, 0, LEAF, 2);
        int other = x.put(1, 0, 0, LEAF, 2);
        Check.due("one in each", x.match(-1, one, -2), other);
        Check.due("back", x.match(-2, other, -1), one);
        int twin = x.put(1, 0, 1, LEAF, 2);
        Check.due("one and two", x.match(-1, one, -2), NONE);
        Check.due("two and one", x.match(-2, other, -1), NONE);
        Check.due("the second one of two", x.match(-2, twin, -1), NONE);
        int second = x.put(0, 0, 1, LEAF, 2);
        Check.due("two and two: in turn", x.match(-1, second, -2), other);
        Check.due("its holder is not matched", x.match(-1, one, -2), NONE);
        Check.due("the root and one", x.likeness(-1, -2), 2);
        Check.due("back", x.likeness(-2, -1), 2);
    }

    /** "that is no root": the face of a root is not looked at. */
    private static void facesOfRoots() {
        Threewayleaf x = new Threewayleaf();
        int list = x.put(0, 0, 0, LIST, 0);
        Check.due("an empty LIST with the tag 0 is no root", x.match(-1, list, 0), NONE);
        Check.due("the root is no LIST below", x.match(0, 0, -1), 0);
        Check.due("the roots alone", x.likeness(-1, 0), 1);
        Check.due("back", x.likeness(0, -1), 1);
        x.fork(0);
        int outer = x.put(1, 0, 0, LIST, 1);
        int inner = x.put(1, outer, 0, LIST, 0);
        x.retag(0, 0, 7);
        Check.due("one in each, though a root could have it", x.match(-1, list, -2), inner);
        Check.due("roots of other tags", x.match(-1, 0, -2), 0);
    }

    /** "it is the first, the second or a later one": of the same kind and tag, and not matched by face. */
    private static void inTurn() {
        Threewayleaf x = new Threewayleaf();
        x.fork(0);
        for (int branch = 0; branch <= 1; branch++) {
            for (int i = 0; i < 3 - branch; i++) {
                x.put(branch, 0, 2 * i, LEAF, 5);
                x.put(branch, 0, 2 * i, LIST, 5);
            }
        }
        Check.due("the branch 0", Check.childrenOf(x, -1, 0), "2,1,4,3,6,5,");
        Check.due("the branch 1", Check.childrenOf(x, -2, 0), "8,7,10,9,");
        int[] due = {0, 7, 8, 9, 10, NONE, NONE};
        for (int node = 0; node < due.length; node++) {
            Check.due("first, second and third", x.match(-1, node, -2), due[node]);
        }
        Check.due("as many as there are", x.likeness(-1, -2), 5);
        Check.due("back", x.likeness(-2, -1), 5);
        Check.due("a second one", x.match(-2, 9, -1), 3);
        x.retag(0, 1, 4);
        Check.due("another tag", x.match(-1, 1, -2), NONE);
        Check.due("so the second one is the first one", x.match(-1, 3, -2), 7);
        Check.due("and the third one is the second one", x.match(-1, 5, -2), 9);
    }

    /** A SET has its children in turn by their numbers, whatever their spots. */
    private static void inTurnInASet() {
        Threewayleaf x = new Threewayleaf();
        int set = x.put(0, 0, 0, SET, 1);
        int first = x.put(0, set, 0, LEAF, 2);
        int second = x.put(0, set, 0, LEAF, 3);
        x.commit(0);
        x.fork(1);
        x.write(0, first, 0, 1);
        x.write(1, second, 0, 1);
        Check.due("the same kind and tag", x.match(-1, first, -2), first);
        Check.due("the other one", x.match(-1, second, -2), second);
        Check.due("all", x.likeness(-1, -2), 4);
    }

    public static void main(String[] args) {
        noSuchBranch();
        noSuchVersion();
        noSuchView();
        noSuchNodeAtTheDesk();
        noSuchNodeInAView();
        noSuchWordPlace();
        outOfRange();
        placesOutOfRange();
        noSuchConflict();
        removeCountsItselfAndAllBelow();
        theSameAgain();
        settlingByChoice();
        settlingWhatIsGone();
        settlingARing();
        resetCountsEdits();
        mergeWithoutJoining();
        pickAndRevertOfTheHead();
        pickAndRevertOfAJoinedVersion();
        childrenUpToTheLast();
        optionsOfBoth();
        charsUpToTheLast();
        theLongestScript();
        theScriptOfAllThatDiffers();
        facesOfOneAlone();
        facesOfRoots();
        inTurn();
        inTurnInASet();
        Check.end("calls, at their bounds");
    }
}
