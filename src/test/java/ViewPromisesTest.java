/** Promises 22 to 35: what views tell, and prints. */
public final class ViewPromisesTest {
    private static final int NONE = Threewayleaf.NONE;
    private static final int LIST = Threewayleaf.LIST, SET = Threewayleaf.SET, LEAF = Threewayleaf.LEAF, LINK = Threewayleaf.LINK;
    private static final int MOVED = Threewayleaf.MOVED, TAGGED = Threewayleaf.TAGGED, AIMED = Threewayleaf.AIMED, GONE = Threewayleaf.GONE, RING = Threewayleaf.RING;

    /** The version 1 has 1 (a LIST) and 2 (a SET) below the root, 3 (a LEAF saying 50, 51) and 4 (a LINK at 2) in 1; the desk 1 has no 4. */
    private static Threewayleaf ready() {
        Threewayleaf x = new Threewayleaf();
        x.put(0, 0, 0, LIST, 1);
        x.put(0, 0, 1, SET, 2);
        x.put(0, 1, 0, LEAF, 3);
        x.put(0, 1, 1, LINK, 4);
        x.write(0, 3, 0, 50);
        x.write(0, 3, 1, 51);
        x.aim(0, 4, 2);
        x.commit(0);
        x.fork(1);
        x.remove(1, 4);
        return x;
    }

    private static void promise22IsThere() {
        Threewayleaf x = ready();
        Check.due("in a version", x.isThere(1, 4), true);
        Check.due("not in an earlier one", x.isThere(0, 4), false);
        Check.due("at a desk", x.isThere(-1, 4), true);
        Check.due("not at another desk", x.isThere(-2, 4), false);
        Check.due("the root", x.isThere(0, 0), true);
        Check.fails("no node", Check.INDEX, () -> x.isThere(0, 5));
        Check.fails("node below 0", Check.INDEX, () -> x.isThere(0, -1));
        Check.fails("no version", Check.INDEX, () -> x.isThere(2, 0));
        Check.fails("no desk", Check.INDEX, () -> x.isThere(-3, 0));
        Check.fails("the least view", Check.INDEX, () -> x.isThere(Integer.MIN_VALUE, 0));
        Check.fails("the greatest view", Check.INDEX, () -> x.isThere(Integer.MAX_VALUE, 0));
        Check.fails("the greatest node", Check.INDEX, () -> x.isThere(0, Integer.MAX_VALUE));
        x.put(1, 0, 0, LEAF, 1);
        Check.due("put in another branch", x.isThere(-1, 5), false);
    }

    private static void promise23Kind() {
        Threewayleaf x = ready();
        Check.due("root", x.kind(0), LIST);
        Check.due("SET", x.kind(2), SET);
        Check.due("LEAF", x.kind(3), LEAF);
        Check.due("LINK", x.kind(4), LINK);
        Check.fails("no node", Check.INDEX, () -> x.kind(5));
        Check.fails("below 0", Check.INDEX, () -> x.kind(-1));
        Check.fails("the least", Check.INDEX, () -> x.kind(Integer.MIN_VALUE));
    }

    private static void promise24Holder() {
        Threewayleaf x = ready();
        Check.due("of a node", x.holder(1, 3), 1);
        Check.due("of a child of the root", x.holder(-1, 1), 0);
        Check.due("of the root", x.holder(0, 0), NONE);
        Check.fails("not there yet", Check.INDEX, () -> x.holder(0, 3));
        Check.fails("not there any more", Check.INDEX, () -> x.holder(-2, 4));
        Check.fails("no view", Check.INDEX, () -> x.holder(2, 0));
        Check.fails("node below 0", Check.INDEX, () -> x.holder(1, -1));
    }

    private static void promises25And26Children() {
        Threewayleaf x = ready();
        Check.due("two", x.children(1, 1), 2);
        Check.due("one", x.children(-2, 1), 1);
        Check.due("none", x.children(1, 2), 0);
        Check.due("none of a LEAF", x.children(1, 3), 0);
        Check.fails("not there", Check.INDEX, () -> x.children(0, 1));
        Check.fails("no view", Check.INDEX, () -> x.children(-3, 0));
        Check.due("first", x.child(1, 1, 0), 3);
        Check.due("second", x.child(1, 1, 1), 4);
        Check.due("not so many", x.child(1, 1, 2), NONE);
        Check.due("by far not so many", x.child(1, 1, Integer.MAX_VALUE), NONE);
        Check.due("not so many any more", x.child(-2, 1, 1), NONE);
        Check.due("of a LEAF", x.child(1, 3, 0), NONE);
        Check.fails("below 0", Check.INDEX, () -> x.child(1, 1, -1));
        Check.fails("not there", Check.INDEX, () -> x.child(0, 1, 0));
        Check.fails("no view", Check.INDEX, () -> x.child(2, 0, 0));
        x.put(0, 2, 0, LEAF, 9);
        x.put(0, 2, 0, LEAF, 8);
        x.move(0, 5, 2, 1);
        x.move(0, 3, 2, 2);
        Check.due("a SET by numbers", Check.childrenOf(x, -1, 2), "3,5,6,");
    }

    private static void promises27And28TagAndAim() {
        Threewayleaf x = ready();
        Check.due("tag", x.tag(1, 4), 4);
        Check.due("tag of the root", x.tag(0, 0), 0);
        x.retag(1, 3, 9);
        Check.due("tag at a desk", x.tag(-2, 3), 9);
        Check.due("tag in the version", x.tag(1, 3), 3);
        Check.fails("not there", Check.INDEX, () -> x.tag(-2, 4));
        Check.fails("no view", Check.INDEX, () -> x.tag(2, 0));
        Check.due("aim", x.aimOf(1, 4), 2);
        Check.due("no LINK", x.aimOf(1, 3), NONE);
        Check.due("the root", x.aimOf(1, 0), NONE);
        x.aim(0, 4, NONE);
        Check.due("none", x.aimOf(-1, 4), NONE);
        Check.fails("not there", Check.INDEX, () -> x.aimOf(-2, 4));
        Check.fails("no view", Check.INDEX, () -> x.aimOf(-3, 0));
    }

    private static void promises29And30Words() {
        Threewayleaf x = ready();
        x.write(1, 3, 1, 99);
        Check.due("words", x.words(1, 3), 2);
        Check.due("words at a desk", x.words(-2, 3), 3);
        Check.due("none of a LIST", x.words(1, 1), 0);
        Check.fails("not there", Check.INDEX, () -> x.words(0, 3));
        Check.fails("no view", Check.INDEX, () -> x.words(2, 0));
        Check.due("first", x.word(-2, 3, 0), 500);
        Check.due("second, by the branch 1", x.word(-2, 3, 1), 991);
        Check.due("third", x.word(-2, 3, 2), 510);
        Check.due("second in the version", x.word(1, 3, 1), 510);
        Check.fails("no place", Check.INDEX, () -> x.word(1, 3, 2));
        Check.fails("place below 0", Check.INDEX, () -> x.word(1, 3, -1));
        Check.fails("of a LIST", Check.INDEX, () -> x.word(1, 1, 0));
        Check.fails("not there", Check.INDEX, () -> x.word(0, 3, 0));
        Check.fails("no view", Check.INDEX, () -> x.word(-3, 3, 0));
        x.remove(1, 3);
        x.merge(0, 1);
        Check.fails("of one that is removed", Check.INDEX, () -> x.words(-2, 3));
    }

    /** Words behind the same one: the later one comes first, with all that follows it. */
    private static void wordsOfSeveralBranches() {
        Threewayleaf x = ready();
        x.reset(1);
        x.write(0, 3, 1, 10);
        x.write(1, 3, 1, 20);
        x.write(0, 3, 2, 11);
        x.write(1, 3, 2, 21);
        x.strike(1, 3, 1);
        x.commit(0);
        x.commit(1);
        x.merge(0, 3);
        Check.due("order of both", Check.sensesOf(x, -1, 3), "50,21,10,11,51,");
    }

    /** Both branches move and retag the node 3 and aim the LINK 4, each in its way; the version 4 joins them. */
    private static Threewayleaf conflicting() {
        Threewayleaf x = ready();
        x.reset(1);
        x.move(0, 3, 0, 0);
        x.move(1, 3, 2, 0);
        x.retag(0, 3, 8);
        x.retag(1, 3, 6);
        x.aim(0, 4, NONE);
        x.aim(1, 4, 1);
        x.commit(0);
        x.commit(1);
        x.merge(0, 3);
        return x;
    }

    private static void promises31And32Conflicts() {
        Threewayleaf x = conflicting();
        Check.due("three", x.conflicts(4), 3);
        Check.due("three at the desk", x.conflicts(-1), 3);
        Check.due("none in a version ahead", x.conflicts(3), 0);
        Check.fails("no version", Check.INDEX, () -> x.conflicts(5));
        Check.fails("no desk", Check.INDEX, () -> x.conflicts(-3));
        Check.due("holder of the lesser spot", x.option(4, 3, MOVED, 0), 0);
        Check.due("holder of the greater spot", x.option(4, 3, MOVED, 1), 2);
        Check.due("lesser tag", x.option(4, 3, TAGGED, 0), 6);
        Check.due("greater tag", x.option(4, 3, TAGGED, 1), 8);
        Check.due("aim at none", x.option(4, 4, AIMED, 0), NONE);
        Check.due("greater aim", x.option(4, 4, AIMED, 1), 1);
        Check.fails("no such conflict", Check.ELEMENT, () -> x.option(4, 3, GONE, 0));
        Check.fails("no such conflict", Check.ELEMENT, () -> x.option(4, 3, RING, 1));
        Check.fails("no such conflict in this view", Check.ELEMENT, () -> x.option(3, 3, MOVED, 1));
        Check.fails("kind too great", Check.ARGUMENT, () -> x.option(4, 3, 5, 0));
        Check.fails("kind below 0", Check.ARGUMENT, () -> x.option(4, 3, -1, 0));
        Check.fails("which too great", Check.ARGUMENT, () -> x.option(4, 3, GONE, 2));
        Check.fails("which below 0", Check.ARGUMENT, () -> x.option(4, 3, MOVED, -1));
        Check.fails("not there", Check.INDEX, () -> x.option(0, 3, 9, 9));
        Check.fails("no view", Check.INDEX, () -> x.option(5, 0, 9, 9));
        x.remove(0, 3);
        Check.due("what is not there has no conflicts", x.conflicts(-1), 1);
    }

    private static void promise33Print() {
        Threewayleaf x = ready();
        Check.due("of the version 0", x.print(0), Check.printOf(0, 0, 0, 0, 0, 0, 0, 0));
        long leaf = Check.printOf(2, 3, 0, 51, 52, 0, 0, 0, 0, 0);
        long link = Check.printOf(3, 4, 3, 0, 0, 0, 0, 0);
        long list = Check.printOf(0, 1, 0, leaf, link, 0, 0, 0, 0, 0);
        long set = Check.printOf(1, 2, 0, 0, 0, 0, 0, 0);
        Check.due("of the version 1", x.print(1), Check.printOf(0, 0, 0, list, set, 0, 0, 0, 0, 0));
        long shorter = Check.printOf(0, 1, 0, leaf, 0, 0, 0, 0, 0);
        Check.due("of a desk", x.print(-2), Check.printOf(0, 0, 0, shorter, set, 0, 0, 0, 0, 0));
        Check.fails("no version", Check.INDEX, () -> x.print(2));
        Check.fails("no desk", Check.INDEX, () -> x.print(-3));
    }

    private static void promise33PrintOfConflicts() {
        Threewayleaf x = conflicting();
        // The spots: 0 to 3 of the nodes 1 to 4, then 4 and 5 of the node 3.
        long leaf = Check.printOf(2, 6, 0, 51, 52, 4007, 6010, 0, 0, 0);
        long link = Check.printOf(3, 4, 0, 0, 0, -1000 + 1 + 2, 0, 0);
        long list = Check.printOf(0, 1, 0, link, 0, 0, 0, 0, 0);
        long set = Check.printOf(1, 2, 0, 0, 0, 0, 0, 0);
        Check.due("with options", x.print(4), Check.printOf(0, 0, 0, leaf, list, set, 0, 0, 0, 0, 0));

        Threewayleaf y = ready();
        y.reset(1);
        y.put(0, 0, 2, LIST, 7);
        y.commit(0);
        y.merge(1, 2);
        y.move(0, 1, 5, 0);
        y.move(1, 5, 1, 0);
        y.remove(0, 3);
        y.retag(1, 3, 0);
        y.commit(0);
        y.commit(1);
        y.merge(1, 3);
        long gone = Check.printOf(2, 0, 0, 51, 52, 0, 0, 0, 1, 0);
        long aimed = Check.printOf(3, 4, 3, 0, 0, 0, 0, 0);
        long ring = Check.printOf(0, 1, 0, gone, aimed, 0, 0, 0, 0, 1);
        long other = Check.printOf(0, 7, 0, 0, 0, 0, 0, 1);
        Check.due("1 for GONE and RING", y.print(5), Check.printOf(0, 0, 0, ring, set, other, 0, 0, 0, 0, 0));
    }

    private static void promises34And35Joined() {
        Threewayleaf x = conflicting();
        Check.due("of two that are joined", x.joined(2, 3), x.print(4));
        Check.due("from the other side", x.joined(3, 2), x.print(4));
        Check.due("by script", x.joinedByScript(2, 3), x.print(4));
        Check.due("by script, from the other side", x.joinedByScript(3, 2), x.print(4));
        Check.due("of two others", x.joined(0, 1), x.print(1));
        Check.due("of two others by script", x.joinedByScript(0, 2), x.print(2));
        Check.due("with itself", x.joined(4, 4), x.print(4));
        Check.due("with an older one", x.joined(0, 4), x.print(4));
        Check.due("by script with an older one", x.joinedByScript(4, 1), x.print(4));
        Check.due("no version is made", x.versions(), 5);
        Check.fails("no version", Check.INDEX, () -> x.joined(5, 0));
        Check.fails("no other", Check.INDEX, () -> x.joined(0, 5));
        Check.fails("a desk", Check.INDEX, () -> x.joined(-1, 0));
        Check.fails("no version", Check.INDEX, () -> x.joinedByScript(5, 0));
        Check.fails("no other", Check.INDEX, () -> x.joinedByScript(0, 5));
        Check.fails("a desk", Check.INDEX, () -> x.joinedByScript(0, -1));
    }

    public static void main(String[] args) {
        promise22IsThere();
        promise23Kind();
        promise24Holder();
        promises25And26Children();
        promises27And28TagAndAim();
        promises29And30Words();
        wordsOfSeveralBranches();
        promises31And32Conflicts();
        promise33Print();
        promise33PrintOfConflicts();
        promises34And35Joined();
        Check.end("promises 22 to 35");
    }
}
