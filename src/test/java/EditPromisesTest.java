/** Promises 1 to 9: a new object, and the edits of desks. */
public final class EditPromisesTest {
    private static final int NONE = Threewayleaf.NONE;
    private static final int LIST = Threewayleaf.LIST, SET = Threewayleaf.SET, LEAF = Threewayleaf.LEAF, LINK = Threewayleaf.LINK;
    private static final int MOVED = Threewayleaf.MOVED, TAGGED = Threewayleaf.TAGGED, AIMED = Threewayleaf.AIMED, GONE = Threewayleaf.GONE, RING = Threewayleaf.RING;

    /** Two branches of one version with 1 (a LIST) and 2 (a LIST) below the root, 3 (a LEAF) and 4 (a LINK) in 1. */
    private static Threewayleaf twoBranches() {
        Threewayleaf x = new Threewayleaf();
        x.put(0, 0, 0, LIST, 1);
        x.put(0, 0, 1, LIST, 2);
        x.put(0, 1, 0, LEAF, 3);
        x.put(0, 1, 1, LINK, 4);
        x.commit(0);
        x.fork(1);
        return x;
    }

    private static void promise1NewObject() {
        Threewayleaf x = new Threewayleaf();
        Check.due("versions of a new object", x.versions(), 1);
        Check.due("head of the branch 0", x.head(0), 0);
        Check.due("the branch 0 is clean", x.isClean(0), true);
        Check.fails("no branch 1", Check.INDEX, () -> x.head(1));
        Check.due("the root is there", x.isThere(0, 0), true);
        Check.due("the root is a LIST", x.kind(0), LIST);
        Check.due("the root has the tag 0", x.tag(-1, 0), 0);
        Check.due("the root has no children", x.children(-1, 0), 0);
        Check.due("the version 0 has no parent", x.parent(0, 0), NONE);
        Check.fails("no node 1", Check.INDEX, () -> x.kind(1));
    }

    private static void promise2Put() {
        Threewayleaf x = new Threewayleaf();
        Check.due("first node", x.put(0, 0, 0, LIST, 1), 1);
        Check.due("behind it", x.put(0, 0, 1, SET, 0), 2);
        Check.due("ahead of both", x.put(0, 0, 0, LEAF, 9), 3);
        Check.due("in between", x.put(0, 0, 2, LINK, 3), 4);
        Check.due("order of a LIST", Check.childrenOf(x, -1, 0), "3,1,4,2,");
        Check.due("into a SET", x.put(0, 2, 0, LEAF, 5), 5);
        Check.due("into a SET, ahead", x.put(0, 2, 0, LEAF, 4), 6);
        Check.due("order of a SET", Check.childrenOf(x, -1, 2), "5,6,");
        Check.due("tag of what was put", x.tag(-1, 3), 9);
        Check.due("kind of what was put", x.kind(4), LINK);
        Check.due("aim of a new LINK", x.aimOf(-1, 4), NONE);
        Check.fails("no branch", Check.INDEX, () -> x.put(1, 0, 0, LIST, 1));
        Check.fails("branch below 0", Check.INDEX, () -> x.put(-1, 0, 0, LIST, 1));
        Check.fails("no parent", Check.INDEX, () -> x.put(0, 7, 0, LIST, 1));
        Check.fails("parent below 0", Check.INDEX, () -> x.put(0, -1, 9, 9, 99));
        Check.fails("place too far", Check.ARGUMENT, () -> x.put(0, 0, 5, LIST, 1));
        Check.fails("place below 0", Check.ARGUMENT, () -> x.put(0, 0, -1, LIST, 1));
        Check.fails("kind too great", Check.ARGUMENT, () -> x.put(0, 0, 0, 4, 1));
        Check.fails("kind below 0", Check.ARGUMENT, () -> x.put(0, 0, 0, -1, 1));
        Check.fails("tag too great", Check.ARGUMENT, () -> x.put(0, 0, 0, LIST, 10));
        Check.fails("tag below 0", Check.ARGUMENT, () -> x.put(0, 0, 0, LIST, -1));
        Check.fails("the argument comes ahead of the LEAF", Check.ARGUMENT, () -> x.put(0, 3, 1, LIST, 1));
        Check.fails("parent is a LEAF", Check.STATE, () -> x.put(0, 3, 0, LIST, 1));
        Check.fails("parent is a LINK", Check.STATE, () -> x.put(0, 4, 0, LIST, 1));
        Check.fails("rule 1", Check.STATE, () -> x.put(0, 2, 0, LEAF, 5));
        Check.due("what threw made no node", x.put(0, 2, 0, LEAF, 6), 7);
        Check.due("nor a child", x.children(-1, 2), 3);
        Check.due("nothing happened to the version", x.children(0, 0), 0);
    }

    private static void promise2Limits() {
        Threewayleaf x = new Threewayleaf();
        for (int i = 0; i < 8; i++) {
            x.put(0, 0, i, LIST, i);
        }
        Check.fails("rule 3", Check.STATE, () -> x.put(0, 0, 0, LIST, 1));
        int deep = 1;
        for (int depth = 2; depth <= 8; depth++) {
            deep = x.put(0, deep, 0, LIST, 1);
        }
        int deepest = deep;
        Check.fails("rule 4", Check.STATE, () -> x.put(0, deepest, 0, LEAF, 1));
        for (int node = 16; node < 40; node++) {
            Check.due("node", x.put(0, 2 + (node - 16) / 8, 0, LEAF, 1), node);
        }
        Check.fails("40 nodes", Check.STATE, () -> x.put(0, 5, 0, LEAF, 1));
        Check.fails("40 nodes, but no place", Check.ARGUMENT, () -> x.put(0, 5, 1, LEAF, 1));

        Threewayleaf y = new Threewayleaf();
        y.put(0, 0, 0, LIST, 1);
        for (int spot = 1; spot < 120; spot++) {
            y.move(0, 1, 0, 0);
        }
        Check.fails("120 spots: put", Check.STATE, () -> y.put(0, 0, 0, LEAF, 1));
        Check.fails("120 spots: move", Check.STATE, () -> y.move(0, 1, 0, 0));
        Check.due("still there", Check.childrenOf(y, -1, 0), "1,");
    }

    /** Of spots behind the same one the greater number comes first, with all that follows it. */
    private static void spotsOfSeveralBranches() {
        Threewayleaf x = twoBranches();
        x.put(0, 0, 1, LEAF, 5);
        x.put(0, 0, 2, LEAF, 5);
        x.put(1, 0, 1, LEAF, 6);
        x.put(1, 0, 2, LEAF, 6);
        x.put(0, 0, 2, LEAF, 5);
        Check.due("order in the branch 0", Check.childrenOf(x, -1, 0), "1,5,9,6,2,");
        Check.due("order in the branch 1", Check.childrenOf(x, -2, 0), "1,7,8,2,");
        x.commit(0);
        x.commit(1);
        x.merge(0, 3);
        Check.due("order of both", Check.childrenOf(x, -1, 0), "1,7,8,5,9,6,2,");
    }

    private static void promise3Remove() {
        Threewayleaf x = twoBranches();
        x.write(0, 3, 0, 7);
        Check.fails("the root", Check.STATE, () -> x.remove(0, 0));
        Check.fails("no branch", Check.INDEX, () -> x.remove(2, 1));
        Check.fails("no node", Check.INDEX, () -> x.remove(0, 5));
        x.put(0, 2, 0, LINK, 1);
        x.aim(0, 5, 3);
        Check.fails("rule 2", Check.STATE, () -> x.remove(0, 1));
        Check.due("all is there still", x.isThere(-1, 3), true);
        Check.due("and said", x.words(-1, 3), 1);
        x.aim(0, 4, 3);
        x.aim(0, 5, -1);
        Check.due("a LINK that is removed with its aim", x.remove(0, 1), 3);
        Check.due("not there", x.isThere(-1, 1), false);
        Check.due("what is below is not there", x.isThere(-1, 3), false);
        Check.due("one that is not below is there", x.isThere(-1, 2), true);
        Check.due("it is there in the other branch", x.isThere(-2, 1), true);
        Check.fails("it is not there any more", Check.INDEX, () -> x.remove(0, 3));
        Check.due("one alone", x.remove(0, 5), 1);
    }

    private static void promise4Move() {
        Threewayleaf x = twoBranches();
        x.put(0, 0, 2, SET, 5);
        x.move(0, 1, 0, 2);
        Check.due("to the end", Check.childrenOf(x, -1, 0), "2,5,1,");
        x.move(0, 5, 0, 0);
        Check.due("to the front", Check.childrenOf(x, -1, 0), "5,2,1,");
        x.move(0, 5, 0, 1);
        Check.due("the node itself is left out", Check.childrenOf(x, -1, 0), "2,5,1,");
        x.move(0, 1, 2, 0);
        Check.due("with all that are below it", x.holder(-1, 3), 1);
        Check.due("into another one", x.holder(-1, 1), 2);
        x.move(0, 3, 5, 0);
        Check.due("into a SET", Check.childrenOf(x, -1, 5), "3,");
        Check.fails("no branch", Check.INDEX, () -> x.move(2, 1, 0, 0));
        Check.fails("no node", Check.INDEX, () -> x.move(0, 6, 0, 0));
        Check.fails("no parent", Check.INDEX, () -> x.move(0, 1, 6, 0));
        Check.fails("place too far, the node left out", Check.ARGUMENT, () -> x.move(0, 1, 2, 1));
        Check.fails("place below 0", Check.ARGUMENT, () -> x.move(0, 1, 2, -1));
        Check.fails("the place ahead of the root", Check.ARGUMENT, () -> x.move(0, 0, 2, 2));
        Check.fails("the root", Check.STATE, () -> x.move(0, 0, 5, 0));
        Check.fails("below itself", Check.STATE, () -> x.move(0, 2, 1, 0));
        Check.fails("into itself", Check.STATE, () -> x.move(0, 2, 2, 0));
        Check.fails("into a LEAF", Check.STATE, () -> x.move(0, 1, 3, 0));
        Check.fails("into a LINK", Check.STATE, () -> x.move(0, 3, 4, 0));
        x.retag(0, 4, 3);
        Check.fails("rule 1", Check.STATE, () -> x.move(0, 4, 5, 0));
        Check.due("nothing happened", x.holder(-1, 4), 1);
        int before = x.edits(-1, 1);
        x.move(0, 5, 0, 1);
        Check.due("a node that is added has no edit for its spot", x.edits(-1, 1), before);
        x.move(1, 1, 0, 0);
        Check.due("a new spot at the same place is an edit", Check.scriptOf(x, 1, -2), "*1;");
    }

    private static void promise5Retag() {
        Threewayleaf x = twoBranches();
        Check.due("the tag before", x.retag(0, 3, 9), 3);
        Check.due("the tag then", x.tag(-1, 3), 9);
        Check.due("the root has one, too", x.retag(0, 0, 4), 0);
        Check.due("not in the other branch", x.tag(-2, 0), 0);
        Check.fails("no branch", Check.INDEX, () -> x.retag(2, 0, 99));
        Check.fails("no node", Check.INDEX, () -> x.retag(0, 5, 99));
        Check.fails("too great", Check.ARGUMENT, () -> x.retag(0, 3, 10));
        Check.fails("below 0", Check.ARGUMENT, () -> x.retag(0, 3, -1));
        int set = x.put(0, 0, 0, SET, 1);
        x.put(0, set, 0, LEAF, 1);
        x.put(0, set, 0, LEAF, 2);
        Check.fails("rule 1", Check.STATE, () -> x.retag(0, set + 1, 2));
        Check.due("the tag stays", x.retag(0, set + 1, 1), 1);
        Check.due("the tag of a child of a LIST", x.retag(0, 4, 9), 4);
    }

    private static void promise6Aim() {
        Threewayleaf x = twoBranches();
        Check.due("no aim before", x.aim(0, 4, 3), NONE);
        Check.due("the aim before", x.aim(0, 4, 4), 3);
        Check.due("at itself", x.aimOf(-1, 4), 4);
        Check.due("at the root", x.aim(0, 4, 0), 4);
        Check.due("at none", x.aim(0, 4, NONE), 0);
        Check.due("at none then", x.aimOf(-1, 4), NONE);
        Check.fails("no branch", Check.INDEX, () -> x.aim(2, 4, 0));
        Check.fails("no node", Check.INDEX, () -> x.aim(0, 5, 0));
        Check.fails("no aim", Check.INDEX, () -> x.aim(0, 4, 5));
        Check.fails("an aim below NONE", Check.INDEX, () -> x.aim(0, 4, -2));
        Check.fails("no aim, of a LEAF", Check.INDEX, () -> x.aim(0, 3, 5));
        Check.fails("a LEAF", Check.STATE, () -> x.aim(0, 3, 0));
        Check.fails("a LEAF at none", Check.STATE, () -> x.aim(0, 3, NONE));
        x.remove(0, 2);
        Check.fails("not there any more", Check.INDEX, () -> x.aim(0, 4, 2));
    }

    private static void promise7Write() {
        Threewayleaf x = twoBranches();
        Check.due("first", x.write(0, 3, 0, 10), 1);
        Check.due("behind it", x.write(0, 3, 1, 11), 2);
        Check.due("ahead of both", x.write(0, 3, 0, 99), 3);
        Check.due("in between", x.write(0, 3, 2, 0), 4);
        Check.due("order", Check.sensesOf(x, -1, 3), "99,10,0,11,");
        Check.due("not in the other branch", x.words(-2, 3), 0);
        Check.fails("no branch", Check.INDEX, () -> x.write(2, 3, 0, 1));
        Check.fails("no node", Check.INDEX, () -> x.write(0, 5, 0, 1));
        Check.fails("place too far", Check.ARGUMENT, () -> x.write(0, 3, 5, 1));
        Check.fails("place below 0", Check.ARGUMENT, () -> x.write(0, 3, -1, 1));
        Check.fails("sense too great", Check.ARGUMENT, () -> x.write(0, 3, 0, 100));
        Check.fails("sense below 0", Check.ARGUMENT, () -> x.write(0, 3, 0, -1));
        Check.fails("a LIST, no such place", Check.ARGUMENT, () -> x.write(0, 1, 1, 1));
        Check.fails("a LIST", Check.STATE, () -> x.write(0, 1, 0, 1));
        for (int word = 4; word < 120; word++) {
            Check.due("words then", x.write(0, 3, 0, 1), word + 1);
        }
        Check.fails("120 words", Check.STATE, () -> x.write(0, 3, 0, 1));
        Check.fails("120 words in any branch", Check.STATE, () -> x.write(1, 3, 0, 1));
        Check.due("120 words", x.words(-1, 3), 120);
    }

    private static void promise8Strike() {
        Threewayleaf x = twoBranches();
        x.write(0, 3, 0, 10);
        x.write(0, 3, 1, 11);
        x.write(0, 3, 2, 12);
        Check.due("its sense", x.strike(0, 3, 1), 11);
        Check.due("the others are said", Check.sensesOf(x, -1, 3), "10,12,");
        x.write(0, 3, 1, 13);
        Check.due("behind a word that is said", Check.sensesOf(x, -1, 3), "10,13,12,");
        Check.fails("no branch", Check.INDEX, () -> x.strike(2, 3, 0));
        Check.fails("no node", Check.INDEX, () -> x.strike(0, 5, 0));
        Check.fails("no place", Check.INDEX, () -> x.strike(0, 3, 3));
        Check.fails("place below 0", Check.INDEX, () -> x.strike(0, 3, -1));
        Check.fails("a LIST has no place", Check.INDEX, () -> x.strike(0, 1, 0));
    }

    /** Both branches move and retag the node 3 and aim the LINK 4, each in its way, and are joined in the branch 0. */
    private static Threewayleaf crossed() {
        Threewayleaf x = twoBranches();
        x.move(0, 3, 0, 0);
        x.move(1, 3, 2, 0);
        x.retag(0, 3, 8);
        x.retag(1, 3, 6);
        x.aim(0, 4, 1);
        x.aim(1, 4, 3);
        x.commit(0);
        x.commit(1);
        x.merge(0, 3);
        return x;
    }

    private static void promise9Settle() {
        Threewayleaf x = crossed();
        Check.due("three conflicts", x.conflicts(-1), 3);
        Check.due("the lesser spot", x.holder(-1, 3), 0);
        x.settle(0, 3, MOVED, 1);
        Check.due("the greater spot", x.holder(-1, 3), 2);
        x.settle(0, 3, TAGGED, 0);
        Check.due("the lesser tag", x.tag(-1, 3), 6);
        x.settle(0, 4, AIMED, 1);
        Check.due("the greater aim", x.aimOf(-1, 4), 3);
        Check.due("no conflicts", x.conflicts(-1), 0);
        Check.fails("settled", Check.ELEMENT, () -> x.settle(0, 3, MOVED, 0));
        Check.due("the version keeps them", x.conflicts(4), 3);
        Check.fails("no branch", Check.INDEX, () -> x.settle(2, 3, 9, 9));
        Check.fails("no node", Check.INDEX, () -> x.settle(0, 5, 9, 9));
        Check.fails("kind too great", Check.ARGUMENT, () -> x.settle(0, 3, 5, 0));
        Check.fails("kind below 0", Check.ARGUMENT, () -> x.settle(0, 3, -1, 0));
        Check.fails("choice too great", Check.ARGUMENT, () -> x.settle(0, 3, MOVED, 2));
        Check.fails("choice below 0", Check.ARGUMENT, () -> x.settle(0, 3, MOVED, -1));
        x.reset(0);
        x.aim(0, 4, NONE);
        x.remove(0, 2);
        Check.fails("the holder of the spot is not there", Check.STATE, () -> x.settle(0, 3, MOVED, 1));
        Check.due("nothing happened", x.holder(-1, 3), 0);
        x.settle(0, 3, MOVED, 0);
        x.remove(0, 3);
        Check.fails("the aim is not there", Check.STATE, () -> x.settle(0, 4, AIMED, 1));
        Check.due("the conflict is there still", x.conflicts(-1), 1);
        x.settle(0, 4, AIMED, 0);
        Check.due("the other aim is there", x.aimOf(-1, 4), 1);
    }

    private static void promise9GoneAndRing() {
        Threewayleaf x = twoBranches();
        x.remove(0, 1);
        x.write(1, 3, 0, 5);
        x.commit(0);
        x.commit(1);
        x.merge(1, 2);
        Check.due("the leaf and its holder are gone ones", x.conflicts(-2), 2);
        Check.due("not what was not touched", x.isThere(-2, 4), false);
        x.settle(1, 3, GONE, 1);
        Check.due("it stays", Check.sensesOf(x, -2, 3), "5,");
        Check.due("one is left", x.conflicts(-2), 1);
        x.settle(1, 1, GONE, 0);
        Check.due("removed with what is below", x.isThere(-2, 3), false);
        Check.due("none is left", x.conflicts(-2), 0);
        x.reset(1);
        int link = x.put(1, 0, 0, LINK, 1);
        x.aim(1, link, 3);
        Check.fails("rule 2", Check.STATE, () -> x.settle(1, 1, GONE, 0));
        Check.due("both are there still", x.conflicts(-2), 2);

        Threewayleaf y = twoBranches();
        y.move(0, 1, 2, 0);
        y.move(1, 2, 1, 0);
        y.commit(0);
        y.commit(1);
        y.merge(0, 3);
        Check.due("a ring of two", y.conflicts(-1), 2);
        Check.due("order as before", Check.childrenOf(y, -1, 0), "1,2,");
        y.settle(0, 1, RING, 1);
        Check.due("nothing else happens", Check.childrenOf(y, -1, 0), "1,2,");
        Check.due("one is left", y.conflicts(-1), 1);
        Check.fails("settled", Check.ELEMENT, () -> y.settle(0, 1, RING, 0));
    }

    /** A choice of a spot can break a rule: it would bring the node below itself. */
    private static void promise9Rule5() {
        Threewayleaf x = twoBranches();
        int other = x.put(0, 0, 2, LIST, 5);
        x.commit(0);
        x.merge(1, 2);
        x.move(0, 1, 2, 0);
        x.move(1, 1, other, 0);
        x.commit(0);
        x.commit(1);
        x.merge(0, 4);
        Check.due("in the lesser spot", x.holder(-1, 1), 2);
        x.move(0, other, 1, 0);
        Check.fails("rule 5", Check.STATE, () -> x.settle(0, 1, MOVED, 1));
        x.settle(0, 1, MOVED, 0);
        Check.due("stays", x.holder(-1, 1), 2);
    }

    public static void main(String[] args) {
        promise1NewObject();
        promise2Put();
        promise2Limits();
        spotsOfSeveralBranches();
        promise3Remove();
        promise4Move();
        promise5Retag();
        promise6Aim();
        promise7Write();
        promise8Strike();
        promise9Settle();
        promise9GoneAndRing();
        promise9Rule5();
        Check.end("promises 1 to 9");
    }
}
