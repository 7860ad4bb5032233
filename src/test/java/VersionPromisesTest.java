/** Promises 10 to 21: versions, branches, and what comes of joining. */
public final class VersionPromisesTest {
    private static final int NONE = Threewayleaf.NONE;
    private static final int LIST = Threewayleaf.LIST, SET = Threewayleaf.SET, LEAF = Threewayleaf.LEAF, LINK = Threewayleaf.LINK;
    private static final int MOVED = Threewayleaf.MOVED, TAGGED = Threewayleaf.TAGGED, AIMED = Threewayleaf.AIMED, GONE = Threewayleaf.GONE, RING = Threewayleaf.RING;

    /** The version 1 has 1 and 2 (LISTs) below the root, 3 (a LEAF saying 50) and 4 (a LINK) in 1; the branches 0 and 1. */
    private static Threewayleaf twoBranches() {
        Threewayleaf x = new Threewayleaf();
        x.put(0, 0, 0, LIST, 1);
        x.put(0, 0, 1, LIST, 2);
        x.put(0, 1, 0, LEAF, 3);
        x.put(0, 1, 1, LINK, 4);
        x.write(0, 3, 0, 50);
        x.commit(0);
        x.fork(1);
        return x;
    }

    private static void promise10Commit() {
        Threewayleaf x = new Threewayleaf();
        Check.fails("no branch", Check.INDEX, () -> x.commit(1));
        Check.fails("branch below 0", Check.INDEX, () -> x.commit(-1));
        Check.fails("clean", Check.STATE, () -> x.commit(0));
        x.put(0, 0, 0, LEAF, 1);
        Check.due("the version", x.commit(0), 1);
        Check.due("the head", x.head(0), 1);
        Check.due("its parent", x.parent(1, 0), 0);
        Check.due("no other parent", x.parent(1, 1), NONE);
        Check.due("its state", x.isThere(1, 1), true);
        Check.fails("clean again", Check.STATE, () -> x.commit(0));
        x.retag(0, 1, 2);
        Check.due("the state never changes", x.tag(1, 1), 1);
        x.retag(0, 1, 1);
        Check.fails("clean if it is the same again", Check.STATE, () -> x.commit(0));
        for (int version = 2; version < 40; version++) {
            x.retag(0, 1, version % 10);
            Check.due("the version", x.commit(0), version);
        }
        x.retag(0, 1, 0);
        Check.fails("40 versions", Check.STATE, () -> x.commit(0));
        Check.fails("40 versions, but no branch", Check.INDEX, () -> x.commit(1));
        Check.due("versions", x.versions(), 40);
    }

    private static void fullOfVersions() {
        Threewayleaf x = twoBranches();
        x.retag(1, 2, 9);
        x.commit(1);
        for (int version = 3; version < 40; version++) {
            x.retag(0, 3, (version + 1) % 10);
            x.commit(0);
        }
        Check.fails("merge: 40 versions", Check.STATE, () -> x.merge(0, 2));
        Check.fails("pick: 40 versions", Check.STATE, () -> x.pick(0, 2));
        Check.fails("revert: 40 versions", Check.STATE, () -> x.revert(0, 3));
        Check.due("nothing happened", x.head(0), 39);
        Check.due("the branch is clean still", x.isClean(0), true);
        x.fork(3);
        Check.due("no version is needed", x.merge(2, 38), 38);
    }

    private static void promise11Reset() {
        Threewayleaf x = twoBranches();
        Check.due("clean", x.reset(0), 0);
        x.put(0, 0, 0, LEAF, 5);
        x.retag(0, 3, 9);
        x.move(0, 3, 2, 0);
        x.strike(0, 3, 0);
        x.remove(0, 4);
        Check.due("edits back", x.reset(0), 5);
        Check.due("clean then", x.isClean(0), true);
        Check.due("as before", Check.childrenOf(x, -1, 1), "3,4,");
        Check.due("the words, too", Check.sensesOf(x, -1, 3), "50,");
        Check.fails("no branch", Check.INDEX, () -> x.reset(2));
        Check.fails("branch below 0", Check.INDEX, () -> x.reset(-1));
    }

    private static void promise12Fork() {
        Threewayleaf x = twoBranches();
        Check.due("a branch", x.fork(0), 2);
        Check.due("its head", x.head(2), 0);
        Check.due("its desk", x.children(-3, 0), 0);
        Check.due("clean", x.isClean(2), true);
        Check.fails("no version", Check.INDEX, () -> x.fork(2));
        Check.fails("version below 0", Check.INDEX, () -> x.fork(-1));
        Check.due("a branch", x.fork(1), 3);
        Check.due("its desk", x.children(-4, 0), 2);
        Check.due("a branch", x.fork(1), 4);
        Check.fails("5 branches", Check.STATE, () -> x.fork(1));
        Check.fails("5 branches, but no version", Check.INDEX, () -> x.fork(2));
        x.retag(4, 1, 7);
        Check.due("desks are of their own", x.tag(-4, 1), 1);
    }

    private static void promise13Merge() {
        Threewayleaf x = twoBranches();
        Check.due("the head", x.merge(0, 1), 1);
        Check.due("older than the head", x.merge(0, 0), 1);
        x.retag(1, 1, 7);
        Check.due("version", x.commit(1), 2);
        Check.due("the head is older", x.merge(0, 2), 2);
        Check.due("the desk is its state", x.tag(-1, 1), 7);
        Check.due("no new version", x.versions(), 3);
        x.retag(0, 2, 8);
        x.commit(0);
        x.write(1, 3, 1, 51);
        Check.fails("not clean", Check.STATE, () -> x.merge(1, 3));
        Check.fails("not clean, though nothing would happen", Check.STATE, () -> x.merge(1, 0));
        x.commit(1);
        Check.due("both are joined", x.merge(1, 3), 5);
        Check.due("its first parent", x.parent(5, 0), 4);
        Check.due("its second parent", x.parent(5, 1), 3);
        Check.due("what the one did", x.tag(-2, 2), 8);
        Check.due("what the other one did", Check.sensesOf(x, 5, 3), "50,51,");
        Check.due("no conflicts", x.conflicts(5), 0);
        Check.due("clean", x.isClean(1), true);
        Check.due("the other branch stays", x.head(0), 3);
        Check.fails("no branch", Check.INDEX, () -> x.merge(2, 0));
        Check.fails("no version", Check.INDEX, () -> x.merge(0, 6));
        Check.fails("version below 0", Check.INDEX, () -> x.merge(0, -1));
        x.retag(0, 2, 7);
        Check.fails("not clean and no version", Check.INDEX, () -> x.merge(0, 6));
    }

    /** Each of the three values is taken; what is at odds becomes the lesser one, with a conflict. */
    private static void joiningOfValues() {
        Threewayleaf x = twoBranches();
        x.put(0, 2, 0, LEAF, 1);
        x.retag(0, 1, 5);
        x.retag(0, 3, 6);
        x.retag(0, 2, 9);
        x.aim(0, 4, 3);
        x.move(0, 3, 2, 0);
        x.put(1, 2, 0, LEAF, 1);
        x.retag(1, 1, 5);
        x.retag(1, 3, 5);
        x.aim(1, 4, 2);
        x.move(1, 3, 0, 0);
        x.commit(0);
        x.commit(1);
        x.merge(0, 3);
        Check.due("both the same: no conflict", x.tag(4, 1), 5);
        Check.due("one alone: no conflict", x.tag(4, 2), 9);
        Check.fails("both the same: no conflict", Check.ELEMENT, () -> x.option(4, 1, TAGGED, 0));
        Check.fails("one alone: no conflict", Check.ELEMENT, () -> x.option(4, 2, TAGGED, 0));
        Check.due("at odds: the lesser tag", x.tag(4, 3), 5);
        Check.due("at odds: the lesser spot", x.holder(4, 3), 2);
        Check.due("at odds: the lesser aim", x.aimOf(4, 4), 2);
        Check.due("three conflicts", x.conflicts(4), 3);
        Check.due("what both put is there", Check.childrenOf(x, 4, 2), "6,3,5,");
        Check.due("from the other side", x.joined(3, 2), x.print(4));
        Check.due("by script", x.joinedByScript(2, 3), x.print(4));
        Check.due("by script, from the other side", x.joinedByScript(3, 2), x.print(4));
    }

    private static void joiningOfAimsAtNone() {
        Threewayleaf x = twoBranches();
        x.aim(0, 4, 1);
        x.commit(0);
        x.merge(1, 2);
        x.aim(0, 4, NONE);
        x.aim(1, 4, 2);
        x.commit(0);
        x.commit(1);
        x.merge(1, 3);
        Check.due("none is the lesser one", x.aimOf(5, 4), NONE);
        Check.due("first option", x.option(5, 4, AIMED, 0), NONE);
        Check.due("second option", x.option(5, 4, AIMED, 1), 2);
    }

    private static void joiningOfWords() {
        Threewayleaf x = twoBranches();
        x.write(0, 3, 1, 51);
        x.write(0, 3, 2, 52);
        x.commit(0);
        x.merge(1, 2);
        x.strike(0, 3, 1);
        x.write(0, 3, 1, 60);
        x.strike(1, 3, 1);
        x.strike(1, 3, 1);
        x.write(1, 3, 0, 70);
        x.commit(0);
        x.commit(1);
        x.merge(0, 4);
        Check.due("said and struck as one or both did", Check.sensesOf(x, -1, 3), "70,50,60,");
        Check.due("words are never at odds", x.conflicts(-1), 0);
    }

    /** What conflicts both already have is taken from the three, too. */
    private static void joiningOfConflicts() {
        Threewayleaf x = twoBranches();
        x.retag(0, 3, 7);
        x.retag(1, 3, 8);
        x.commit(0);
        x.commit(1);
        x.merge(0, 3);
        x.merge(1, 4);
        Check.due("one conflict", x.conflicts(-2), 1);
        x.settle(0, 3, TAGGED, 0);
        x.write(1, 3, 0, 1);
        x.commit(0);
        x.commit(1);
        x.merge(1, 5);
        Check.due("settled by one: settled", x.conflicts(-2), 0);
        Check.due("as it was settled", x.tag(-2, 3), 7);
        x.reset(0);
        x.merge(0, 7);
        x.fork(4);
        x.settle(2, 3, TAGGED, 1);
        x.commit(2);
        x.retag(0, 3, 1);
        x.commit(0);
        Check.due("tags at odds make it anew", x.against(8, 9), 0);
        x.merge(2, 9);
        Check.due("with the tags of now", x.option(-3, 3, TAGGED, 0), 1);
        Check.due("with the tags of now", x.option(-3, 3, TAGGED, 1), 8);
    }

    /** Both sides change the options of a conflict: the one with the lesser options stays. */
    private static void conflictsAtOdds() {
        Threewayleaf x = twoBranches();
        x.retag(0, 3, 7);
        x.retag(1, 3, 8);
        x.commit(0);
        x.commit(1);
        x.fork(1);
        x.retag(2, 3, 9);
        x.commit(2);
        x.merge(0, 4);
        x.merge(1, 4);
        Check.due("options of the one", x.option(-1, 3, TAGGED, 0) * 10 + x.option(-1, 3, TAGGED, 1), 79);
        Check.due("options of the other one", x.option(-2, 3, TAGGED, 0) * 10 + x.option(-2, 3, TAGGED, 1), 89);
        x.retag(0, 3, 5);
        x.retag(1, 3, 5);
        x.commit(0);
        x.commit(1);
        Check.due("one base", x.bases(7, 8), 1);
        x.merge(0, 8);
        Check.due("the same tag", x.tag(-1, 3), 5);
        Check.due("the lesser options", x.option(-1, 3, TAGGED, 0) * 10 + x.option(-1, 3, TAGGED, 1), 79);
        Check.due("one alone has it: it stays", x.joined(8, 7), x.print(-1));
    }

    private static void joiningOfRemoved() {
        Threewayleaf x = twoBranches();
        x.put(0, 2, 0, LIST, 5);
        x.commit(0);
        x.merge(1, 2);
        x.remove(0, 1);
        x.remove(0, 2);
        x.commit(0);
        x.put(1, 5, 0, LEAF, 6);
        x.commit(1);
        Check.due("from both sides", x.joined(3, 4), x.joined(4, 3));
        Check.due("by script", x.joinedByScript(3, 4), x.joined(4, 3));
        Check.due("by script, from the other side", x.joinedByScript(4, 3), x.joined(4, 3));
        x.merge(0, 4);
        Check.due("untouched: removed", x.isThere(-1, 1), false);
        Check.due("untouched: removed with its leaf", x.isThere(-1, 3), false);
        Check.due("a child was put: touched", x.option(-1, 5, GONE, 0), 0);
        Check.due("the holder of what stays is there", x.option(-1, 2, GONE, 1), 0);
        Check.fails("a new node is not gone", Check.ELEMENT, () -> x.option(-1, 6, GONE, 0));
        Check.due("two of them", x.conflicts(-1), 2);
        Check.due("as it was", Check.childrenOf(x, -1, 2), "5,");
    }

    /** A node is touched by its spot, tag, aim, words, conflicts and new children. */
    private static void whatTouches() {
        for (int way = 0; way < 6; way++) {
            Threewayleaf x = twoBranches();
            x.remove(0, way == 2 ? 4 : 3);
            if (way == 5) {
                x.reset(0);
                x.remove(0, 2);
            }
            x.commit(0);
            switch (way) {
                case 0:
                    x.move(1, 3, 1, 0);
                    break;
                case 1:
                    x.retag(1, 3, 9);
                    break;
                case 2:
                    x.aim(1, 4, 1);
                    break;
                case 3:
                    x.write(1, 3, 0, 1);
                    break;
                case 4:
                    x.strike(1, 3, 0);
                    break;
                default:
                    x.move(1, 3, 2, 0);
                    break;
            }
            x.commit(1);
            Check.due("by script, way " + way, x.joinedByScript(2, 3), x.joined(2, 3));
            Check.due("by script, from the other side, way " + way, x.joinedByScript(3, 2), x.joined(2, 3));
            x.merge(0, 3);
            int node = way == 2 ? 4 : way == 5 ? 2 : 3;
            Check.due("touched, way " + way, x.option(-1, node, GONE, 0), 0);
            Check.due("it alone, way " + way, x.conflicts(-1), 1);
            if (node == 3) {
                Check.due("its words are as where it was touched, way " + way, x.words(-1, 3), x.words(3, 3));
            }
        }
    }

    private static void rings() {
        Threewayleaf x = twoBranches();
        x.put(0, 2, 0, LIST, 5);
        x.commit(0);
        x.merge(1, 2);
        x.move(0, 1, 5, 0);
        x.move(1, 2, 1, 0);
        x.commit(0);
        x.commit(1);
        Check.due("from both sides", x.joined(3, 4), x.joined(4, 3));
        Check.due("by script", x.joinedByScript(4, 3), x.joined(3, 4));
        x.merge(0, 4);
        Check.due("three go round", x.conflicts(-1), 3);
        Check.due("1 is as in the base", x.holder(-1, 1), 0);
        Check.due("2 is as in the base", x.holder(-1, 2), 0);
        Check.due("5 is as in the base", x.holder(-1, 5), 2);
        Check.due("5 went round, too", x.option(-1, 5, RING, 0), 0);
        Check.fails("what is below a ring did not", Check.ELEMENT, () -> x.option(-1, 3, RING, 0));
    }

    /** The spot in the base of a node that went round can be below one that both removed. */
    private static void ringBelowWhatBothRemoved() {
        Threewayleaf x = twoBranches();
        x.put(0, 2, 0, LIST, 5);
        x.put(0, 2, 1, LIST, 6);
        x.commit(0);
        x.merge(1, 2);
        x.move(0, 5, 6, 0);
        x.move(1, 6, 5, 0);
        x.move(0, 6, 0, 0);
        x.move(1, 5, 0, 0);
        x.remove(0, 2);
        x.remove(1, 2);
        x.commit(0);
        x.commit(1);
        Check.due("by script", x.joinedByScript(4, 3), x.joined(3, 4));
        x.merge(0, 4);
        Check.due("each one's lesser spot is in the other one", x.option(-1, 5, MOVED, 0) * 10 + x.option(-1, 6, MOVED, 0), 65);
        Check.due("they go round", x.option(-1, 5, RING, 0) + x.option(-1, 6, RING, 0), 0);
        Check.due("5 is back", x.holder(-1, 5), 2);
        Check.due("6 is back", x.holder(-1, 6), 2);
        Check.due("their holder is as in the base", x.tag(-1, 2), 2);
        Check.due("and gone", x.option(-1, 2, GONE, 0), 0);
    }

    private static void promise14Pick() {
        Threewayleaf x = twoBranches();
        x.write(0, 3, 1, 51);
        x.commit(0);
        x.retag(0, 2, 9);
        x.commit(0);
        Check.fails("no parent", Check.STATE, () -> x.pick(1, 0));
        Check.fails("no branch", Check.INDEX, () -> x.pick(2, 3));
        Check.fails("no version", Check.INDEX, () -> x.pick(1, 4));
        Check.fails("version below 0", Check.INDEX, () -> x.pick(1, -1));
        x.retag(1, 1, 7);
        Check.fails("not clean", Check.STATE, () -> x.pick(1, 3));
        x.commit(1);
        Check.due("a new version", x.pick(1, 3), 5);
        Check.due("the head", x.head(1), 5);
        Check.due("what it changed", x.tag(-2, 2), 9);
        Check.due("not what others did before", Check.sensesOf(x, -2, 3), "50,");
        Check.due("what was there stays", x.tag(5, 1), 7);
        Check.due("its parent", x.parent(5, 0), 4);
        Check.due("no second one", x.parent(5, 1), NONE);
        Check.due("clean", x.isClean(1), true);
        Check.due("once more, nothing changes", x.pick(1, 3), 6);
        Check.due("but there is a version", x.edits(5, 6), 0);
        x.merge(0, 6);
        Check.due("of a joined one, what it changed of the first parent", x.pick(1, 7), 8);
        Check.due("that is all of the other line", x.tag(-2, 1), 7);
    }

    private static void promise15Revert() {
        Threewayleaf x = twoBranches();
        x.write(0, 3, 1, 51);
        x.retag(0, 3, 8);
        x.commit(0);
        x.retag(0, 2, 9);
        x.commit(0);
        Check.due("a new version", x.revert(0, 2), 4);
        Check.due("the words are taken back", Check.sensesOf(x, -1, 3), "50,");
        Check.due("the tag is taken back", x.tag(4, 3), 3);
        Check.due("not what came behind", x.tag(4, 2), 9);
        Check.due("its parent", x.parent(4, 0), 3);
        Check.due("no second one", x.parent(4, 1), NONE);
        Check.due("no conflicts", x.conflicts(4), 0);
        Check.fails("no parent", Check.STATE, () -> x.revert(0, 0));
        Check.fails("no branch", Check.INDEX, () -> x.revert(2, 1));
        Check.fails("no version", Check.INDEX, () -> x.revert(0, 5));
        Check.fails("version below 0", Check.INDEX, () -> x.revert(0, -1));
        x.retag(0, 3, 1);
        Check.fails("not clean", Check.STATE, () -> x.revert(0, 2));
        x.commit(0);
        Check.due("taken back of what was changed again", x.revert(0, 4), 6);
        Check.due("at odds", x.option(6, 3, TAGGED, 1), 8);
        Check.due("the lesser one", x.tag(6, 3), 1);
        Check.due("the word is back", Check.sensesOf(x, 6, 3), "50,51,");
        int leaf = x.put(0, 0, 0, LEAF, 1);
        x.commit(0);
        int link = x.put(0, 0, 0, LINK, 1);
        x.aim(0, link, leaf);
        x.commit(0);
        Check.fails("rule 2: what was put is aimed at", Check.STATE, () -> x.revert(0, 7));
        Check.due("nothing happened", x.head(0), 8);
        x.write(0, leaf, 0, 1);
        x.commit(0);
        Check.due("it is touched, so it stays", x.revert(0, 7), 10);
        Check.due("as a gone one", x.option(-1, leaf, GONE, 0), 0);
        x.aim(0, link, NONE);
        x.settle(0, leaf, GONE, 0);
        x.commit(0);
        Check.due("gone already", x.revert(0, 7), 12);
        Check.due("no edits", x.edits(11, 12), 0);
    }

    /** Each rule is broken by joining what breaks none alone. */
    private static void promise16Against() {
        Threewayleaf x = new Threewayleaf();
        int set = x.put(0, 0, 0, SET, 1);
        int list = x.put(0, 0, 1, LIST, 2);
        int link = x.put(0, list, 0, LINK, 3);
        int leaf = x.put(0, list, 1, LEAF, 3);
        x.commit(0);
        x.fork(1);
        x.put(0, set, 0, LEAF, 7);
        x.put(1, set, 0, LEAF, 7);
        x.aim(0, link, leaf);
        x.remove(1, leaf);
        x.commit(0);
        x.commit(1);
        Check.due("rules 1 and 2: the lowest one", x.against(2, 3), 1);
        Check.due("the other way round", x.against(3, 2), 1);
        Check.fails("so they can't be merged", Check.STATE, () -> x.merge(0, 3));
        Check.due("nothing happened", x.head(0), 2);
        x.retag(1, 6, 8);
        x.commit(1);
        Check.due("rule 2", x.against(2, 4), 2);
        Check.due("with itself", x.against(4, 4), 0);
        Check.due("with an older one", x.against(4, 0), 0);
        Check.fails("no version", Check.INDEX, () -> x.against(5, 0));
        Check.fails("no other", Check.INDEX, () -> x.against(0, 5));
        Check.fails("below 0", Check.INDEX, () -> x.against(-1, 0));
        Check.fails("a desk is no version", Check.INDEX, () -> x.against(0, -1));

        Threewayleaf y = new Threewayleaf();
        y.fork(0);
        for (int i = 0; i < 5; i++) {
            y.put(0, 0, 0, LEAF, 1);
            y.put(1, 0, 0, LEAF, 1);
        }
        y.commit(0);
        y.commit(1);
        Check.due("rule 3", y.against(1, 2), 3);
        Check.fails("can't be merged", Check.STATE, () -> y.merge(0, 2));
        y.remove(0, 1);
        y.remove(0, 3);
        y.commit(0);
        Check.due("eight children", y.against(3, 2), 0);
    }

    private static void promise16Depth() {
        Threewayleaf x = new Threewayleaf();
        int deep = 0;
        for (int i = 0; i < 4; i++) {
            deep = x.put(0, deep, 0, LIST, 1);
        }
        int other = 0;
        for (int i = 0; i < 4; i++) {
            other = x.put(0, other, i == 0 ? 1 : 0, LIST, 2);
        }
        x.commit(0);
        x.fork(1);
        x.move(0, 5, deep, 0);
        x.put(1, other, 0, LEAF, 3);
        x.commit(0);
        x.commit(1);
        Check.due("rule 4", x.against(2, 3), 4);
        Check.due("a print all the same", x.joined(2, 3) == 0, false);
        Check.due("by script", x.joinedByScript(2, 3), x.joined(3, 2));
        Check.fails("can't be merged", Check.STATE, () -> x.merge(1, 2));
    }

    /** A ring is untied by spots of the base; one of them can be below a node that moved below what went round. */
    private static void promise16Adrift() {
        Threewayleaf x = new Threewayleaf();
        x.put(0, 0, 0, LIST, 1);
        x.put(0, 1, 0, LIST, 2);
        x.put(0, 0, 1, LIST, 3);
        x.commit(0);
        x.fork(1);
        x.move(0, 2, 3, 0);
        x.move(0, 1, 2, 0);
        x.move(1, 3, 2, 0);
        x.commit(0);
        x.commit(1);
        Check.due("rule 5", x.against(2, 3), 5);
        Check.due("no print", x.joined(2, 3), 0);
        Check.due("no print by script", x.joinedByScript(3, 2), 0);
        Check.fails("can't be merged", Check.STATE, () -> x.merge(0, 3));
        Check.fails("can't be picked", Check.STATE, () -> x.pick(1, 2));
    }

    private static void promises17To20() {
        Threewayleaf x = twoBranches();
        Check.due("versions", x.versions(), 2);
        Check.due("head", x.head(1), 1);
        Check.fails("no branch", Check.INDEX, () -> x.head(2));
        Check.fails("branch below 0", Check.INDEX, () -> x.head(-1));
        Check.due("clean", x.isClean(1), true);
        x.retag(1, 1, 8);
        Check.due("not clean by a tag", x.isClean(1), false);
        Check.due("the other one is", x.isClean(0), true);
        x.retag(1, 1, 1);
        Check.due("clean again", x.isClean(1), true);
        x.move(1, 1, 0, 0);
        Check.due("not clean by a spot", x.isClean(1), false);
        x.reset(1);
        x.strike(1, 3, 0);
        Check.due("not clean by a word", x.isClean(1), false);
        x.write(1, 3, 0, 50);
        Check.due("nor by another word of this sense", x.isClean(1), false);
        x.reset(1);
        x.aim(1, 4, 2);
        Check.due("not clean by an aim", x.isClean(1), false);
        x.reset(1);
        x.put(1, 0, 0, LEAF, 1);
        Check.due("not clean by a node", x.isClean(1), false);
        x.remove(1, 5);
        Check.due("clean without it", x.isClean(1), true);
        Check.fails("no branch", Check.INDEX, () -> x.isClean(2));
        Check.fails("branch below 0", Check.INDEX, () -> x.isClean(-1));
        Check.due("first parent", x.parent(1, 0), 0);
        Check.due("no second one", x.parent(1, 1), NONE);
        Check.due("none of the version 0", x.parent(0, 0), NONE);
        Check.fails("no version", Check.INDEX, () -> x.parent(2, 5));
        Check.fails("version below 0", Check.INDEX, () -> x.parent(-1, 0));
        Check.fails("which too great", Check.ARGUMENT, () -> x.parent(0, 2));
        Check.fails("which below 0", Check.ARGUMENT, () -> x.parent(0, -1));
    }

    private static void cleanByConflict() {
        Threewayleaf x = twoBranches();
        x.remove(0, 4);
        x.commit(0);
        x.retag(1, 4, 9);
        x.commit(1);
        x.merge(0, 3);
        x.settle(0, 4, GONE, 1);
        Check.due("not clean by a conflict", x.isClean(0), false);
        Check.due("an edit", Check.scriptOf(x, 4, -1), "?4;");
    }

    private static void promise21Bases() {
        Threewayleaf x = twoBranches();
        Check.due("of one and itself", x.bases(1, 1), 1);
        Check.due("of one and an older one", x.bases(0, 1), 1);
        x.retag(0, 1, 7);
        x.retag(1, 2, 8);
        x.commit(0);
        x.commit(1);
        Check.due("of two of one version", x.bases(2, 3), 1);
        x.merge(0, 3);
        x.merge(1, 2);
        Check.due("of two that cross", x.bases(4, 5), 2);
        Check.due("of one and a parent", x.bases(4, 2), 1);
        x.retag(0, 1, 3);
        x.retag(1, 1, 4);
        x.commit(0);
        x.commit(1);
        Check.due("of what comes behind", x.bases(6, 7), 2);
        x.merge(0, 7);
        Check.due("the base is what comes of both", x.option(8, 1, TAGGED, 0) * 10 + x.option(8, 1, TAGGED, 1), 34);
        Check.due("one conflict alone", x.conflicts(8), 1);
        Check.fails("no version", Check.INDEX, () -> x.bases(9, 0));
        Check.fails("no other", Check.INDEX, () -> x.bases(0, 9));
        Check.fails("below 0", Check.INDEX, () -> x.bases(-1, 0));
        Check.fails("other below 0", Check.INDEX, () -> x.bases(0, -1));
    }

    /** Both lines tagged a node in their way and crossed; if one settles it, this has to be taken, not the other tag. */
    private static void joiningOverTwoBases() {
        Threewayleaf x = twoBranches();
        x.retag(0, 1, 7);
        x.retag(1, 1, 8);
        x.commit(0);
        x.commit(1);
        x.merge(0, 3);
        x.merge(1, 2);
        x.settle(0, 1, TAGGED, 1);
        x.commit(0);
        x.write(1, 3, 0, 60);
        x.commit(1);
        Check.due("two bases", x.bases(6, 7), 2);
        Check.due("from both sides", x.joined(6, 7), x.joined(7, 6));
        Check.due("by script", x.joinedByScript(6, 7), x.joined(7, 6));
        x.merge(1, 6);
        Check.due("as the one settled it", x.tag(-2, 1), 8);
        Check.due("no conflict is left", x.conflicts(-2), 0);
        Check.due("and what the other one wrote", Check.sensesOf(x, -2, 3), "60,50,");
    }

    private static void joiningOverThreeBases() {
        Threewayleaf x = twoBranches();
        x.fork(1);
        x.retag(0, 1, 7);
        x.retag(1, 2, 7);
        x.retag(2, 3, 7);
        for (int branch = 0; branch < 3; branch++) {
            x.commit(branch);
        }
        x.merge(0, 3);
        x.merge(0, 4);
        x.merge(1, 4);
        x.merge(1, 2);
        Check.due("three bases", x.bases(6, 8), 3);
        x.retag(0, 1, 5);
        x.retag(1, 2, 5);
        x.commit(0);
        x.commit(1);
        Check.due("from both sides", x.joined(9, 10), x.joined(10, 9));
        Check.due("by script", x.joinedByScript(10, 9), x.joined(9, 10));
        x.merge(0, 10);
        Check.due("all that was done", x.tag(-1, 1) * 100 + x.tag(-1, 2) * 10 + x.tag(-1, 3), 557);
        Check.due("without a conflict", x.conflicts(-1), 0);
    }

    public static void main(String[] args) {
        promise10Commit();
        fullOfVersions();
        promise11Reset();
        promise12Fork();
        promise13Merge();
        joiningOfValues();
        joiningOfAimsAtNone();
        joiningOfWords();
        joiningOfConflicts();
        conflictsAtOdds();
        joiningOfRemoved();
        whatTouches();
        rings();
        ringBelowWhatBothRemoved();
        promise14Pick();
        promise15Revert();
        promise16Against();
        promise16Depth();
        promise16Adrift();
        promises17To20();
        cleanByConflict();
        promise21Bases();
        joiningOverTwoBases();
        joiningOverThreeBases();
        Check.end("promises 10 to 21");
    }
}
