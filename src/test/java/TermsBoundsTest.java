/**
 * Nodes, words, conflicts, versions, branches and views, as the document tells of them ahead of its
 * first promise: of each sentence that names a boundary a test at it and beyond it.
 */
public final class TermsBoundsTest {
    private static final int NONE = Threewayleaf.NONE;
    private static final int LIST = Threewayleaf.LIST, SET = Threewayleaf.SET, LEAF = Threewayleaf.LEAF, LINK = Threewayleaf.LINK;
    private static final int MOVED = Threewayleaf.MOVED, TAGGED = Threewayleaf.TAGGED, AIMED = Threewayleaf.AIMED, GONE = Threewayleaf.GONE;
    private static final int LEAST = Integer.MIN_VALUE, GREATEST = Integer.MAX_VALUE;

    // ---- nodes

    /** "Nodes are numbered from 0, at most 40, in the order in which they are put, in whatever branch." */
    private static void nodesAreNumberedAsTheyArePut() {
        Threewayleaf x = new Threewayleaf();
        x.fork(0);
        Check.due("the first one", x.put(0, 0, 0, SET, 1), 1);
        Check.due("in another branch", x.put(1, 0, 0, LEAF, 1), 2);
        Check.due("in the first branch again", x.put(0, 1, 0, LINK, 1), 3);
        Check.refused("put that breaks a rule", x, Check.STATE, () -> x.put(0, 1, 0, LINK, 1));
        Check.due("what was refused took no number", x.put(0, 1, 0, LINK, 2), 4);
        x.remove(0, 4);
        Check.due("the number of what was removed is not given again", x.put(0, 1, 0, LEAF, 2), 5);
        x.reset(0);
        Check.due("nor of what was reset", x.put(0, 0, 0, LEAF, 2), 6);
    }

    private static void thereAreAtMost40Nodes() {
        Threewayleaf x = new Threewayleaf();
        x.fork(0);
        for (int node = 1; node <= 39; node++) {
            Check.due("the node", x.put(node % 2, 0, 0, LEAF, 0), node);
            if (node < 39) {
                x.remove(node % 2, node);
            }
        }
        Check.due("the last one is there", x.isThere(-2, 39), true);
        Check.due("its kind", x.kind(39), LEAF);
        Check.due("it is one of the children", Check.childrenOf(x, -2, 0), "39,");
        Check.refused("40 nodes", x, Check.STATE, () -> x.put(1, 0, 0, LEAF, 0));
        Check.refused("40 nodes, none of them at this desk", x, Check.STATE, () -> x.put(0, 0, 0, LEAF, 0));
        Check.fails("no node 40", Check.INDEX, () -> x.kind(40));
        Check.due("the last one, as any other", x.retag(1, 39, 9), 0);
        Check.due("its word", x.write(1, 39, 0, 99), 1);
        Check.due("in a script", Check.scriptOf(x, 0, -2), "+39;!0;");
        Check.due("in a version", x.commit(1), 1);
        Check.due("joined", x.joined(1, 0), x.print(1));
        Check.due("matched", x.match(1, 39, -2), 39);
        Check.due("removed", x.remove(1, 39), 1);
    }

    /** "The node 0 is the root, a LIST, which is there in each state; its tag is 0 at first." */
    private static void theRootIsThereInEachState() {
        Threewayleaf x = new Threewayleaf();
        Check.due("its kind", x.kind(0), LIST);
        Check.due("its tag", x.tag(0, 0), 0);
        Check.due("at the desk", x.tag(-1, 0), 0);
        Check.refused("it can't be removed", x, Check.STATE, () -> x.remove(0, 0));
        x.retag(0, 0, 9);
        x.commit(0);
        x.fork(0);
        x.retag(1, 0, 3);
        x.commit(1);
        x.merge(0, 2);
        Check.due("in what is joined", x.isThere(3, 0), true);
        Check.due("its tags can be at odds", x.option(3, 0, TAGGED, 1), 9);
        Check.due("its tag in the version 0", x.tag(0, 0), 0);
        Check.due("it can be settled", settledTag(x, 0, 0, 1), 9);
    }

    private static int settledTag(Threewayleaf x, int branch, int node, int choice) {
        x.settle(branch, node, TAGGED, choice);
        return x.tag(-1 - branch, node);
    }

    /** "A node has a kind for ever." */
    private static void kindsAreForEver() {
        Threewayleaf x = new Threewayleaf();
        int[] kinds = {LIST, LIST, SET, LEAF, LINK};
        for (int node = 1; node < kinds.length; node++) {
            x.put(0, 0, 0, kinds[node], 1);
        }
        x.reset(0);
        for (int node = 0; node < kinds.length; node++) {
            Check.due("of a node that is there nowhere", x.kind(node), kinds[node]);
        }
    }

    /** "one that is there has a spot, a tag, 0 to 9" */
    private static void tagsAre0To9() {
        Threewayleaf x = new Threewayleaf();
        Check.due("the least tag", x.tag(-1, x.put(0, 0, 0, LEAF, 0)), 0);
        Check.due("the greatest tag", x.tag(-1, x.put(0, 0, 0, LEAF, 9)), 9);
        Check.due("to the greatest", x.retag(0, 1, 9), 0);
        Check.due("to the least", x.retag(0, 2, 0), 9);
        Check.due("the least one then", x.tag(-1, 2), 0);
        Check.due("the greatest one then", x.tag(-1, 1), 9);
        for (int tag : new int[] {-1, 10, LEAST, GREATEST}) {
            Check.refused("put " + tag, x, Check.ARGUMENT, () -> x.put(0, 0, 0, LEAF, tag));
            Check.refused("retag " + tag, x, Check.ARGUMENT, () -> x.retag(0, 1, tag));
        }
    }

    /** "and, if it is a LINK, an aim: a node, or none" */
    private static void linksAloneHaveAims() {
        Threewayleaf x = new Threewayleaf();
        for (int kind = LIST; kind <= LINK; kind++) {
            x.put(0, 0, kind, kind, 1);
        }
        for (int node = 0; node < 4; node++) {
            int other = node;
            Check.due("no aim", x.aimOf(-1, other), NONE);
            Check.refused("no LINK", x, Check.STATE, () -> x.aim(0, other, 0));
            Check.refused("no LINK, at none", x, Check.STATE, () -> x.aim(0, other, NONE));
        }
        Check.due("none at first", x.aim(0, 4, 0), NONE);
        Check.due("the lowest node", x.aimOf(-1, 4), 0);
        Check.due("the highest node, itself", x.aim(0, 4, 4), 0);
        Check.due("the aim is a node", x.aim(0, 4, NONE), 4);
        Check.due("or none", x.aimOf(-1, 4), NONE);
    }

    /** "Spots are numbered from 0, at most 120, in the order in which they are made": a print tells numbers of spots. */
    private static void spotsAreNumberedAsTheyAreMade() {
        Threewayleaf x = new Threewayleaf();
        x.put(0, 0, 0, SET, 1);
        x.put(0, 1, 0, LEAF, 5);
        x.put(0, 0, 1, LEAF, 5);
        Check.refused("put that breaks a rule", x, Check.STATE, () -> x.put(0, 1, 0, LEAF, 5));
        Check.refused("move that breaks a rule", x, Check.STATE, () -> x.move(0, 3, 1, 0));
        Check.refused("move into itself", x, Check.STATE, () -> x.move(0, 1, 1, 0));
        x.commit(0);
        x.fork(1);
        x.move(0, 3, 0, 0);
        x.move(1, 3, 0, 0);
        x.commit(0);
        x.commit(1);
        x.merge(0, 3);
        long inSet = Check.printOf(2, 5, 0, 0, 0, 0, 0, 0);
        long set = Check.printOf(1, 1, 0, inSet, 0, 0, 0, 0, 0);
        long leaf = Check.printOf(2, 5, 0, 1000 * 3 + 4 + 2, 0, 0, 0, 0);
        Check.due("what was refused made no spots", x.print(4), Check.printOf(0, 0, 0, leaf, set, 0, 0, 0, 0, 0));
    }

    private static void thereAreAtMost120Spots() {
        Threewayleaf x = new Threewayleaf();
        x.put(0, 0, 0, LEAF, 1);
        for (int spot = 1; spot < 118; spot++) {
            x.move(0, 1, 0, 0);
        }
        x.commit(0);
        x.fork(1);
        x.move(0, 1, 0, 0);
        x.move(1, 1, 0, 0);
        for (int branch = 0; branch < 2; branch++) {
            int of = branch;
            Check.refused("120 spots: put", x, Check.STATE, () -> x.put(of, 0, 0, LEAF, 1));
            Check.refused("120 spots: move", x, Check.STATE, () -> x.move(of, 1, 0, 0));
            Check.refused("120 spots, but no place: put", x, Check.ARGUMENT, () -> x.put(of, 0, 2, LEAF, 1));
            Check.refused("120 spots, but no place: move", x, Check.ARGUMENT, () -> x.move(of, 1, 0, 1));
        }
        Check.due("other edits need none", x.retag(0, 1, 1), 1);
        x.commit(0);
        x.commit(1);
        x.merge(0, 3);
        long leaf = Check.printOf(2, 1, 0, 1000 * 118 + 119 + 2, 0, 0, 0, 0);
        Check.due("the last two spots", x.print(4), Check.printOf(0, 0, 0, leaf, 0, 0, 0, 0, 0));
        x.settle(0, 1, MOVED, 1);
        Check.due("the last one of all", Check.childrenOf(x, -1, 0), "1,");
    }

    /** "a spot is below a node, its holder, and behind another spot of this holder, or behind none" */
    private static void spotsAreBehindOthersOfTheirHolder() {
        Threewayleaf x = new Threewayleaf();
        x.put(0, 0, 0, LIST, 1);
        x.put(0, 1, 0, LEAF, 2);
        x.put(0, 0, 1, LEAF, 3);
        x.put(0, 1, 1, LEAF, 4);
        x.put(0, 0, 0, LEAF, 5);
        x.put(0, 1, 0, LEAF, 6);
        Check.due("behind none, and behind others, of the root", Check.childrenOf(x, -1, 0), "5,1,3,");
        Check.due("behind none, and behind others, of a LIST", Check.childrenOf(x, -1, 1), "6,2,4,");
    }

    /** "No two nodes ever have one spot." */
    private static void noTwoNodesHaveOneSpot() {
        Threewayleaf x = new Threewayleaf();
        x.fork(0);
        x.put(0, 0, 0, LEAF, 1);
        x.put(1, 0, 0, LEAF, 1);
        x.commit(0);
        x.commit(1);
        x.merge(0, 2);
        Check.due("both are at the place", Check.childrenOf(x, 3, 0), "2,1,");
        x.remove(0, 2);
        x.put(0, 0, 0, LEAF, 1);
        x.commit(0);
        x.merge(1, 3);
        x.retag(1, 2, 9);
        x.commit(1);
        x.merge(0, 5);
        Check.due("one that comes back has not the spot of another one", Check.childrenOf(x, 6, 0), "3,2,1,");
    }

    /** "The children of a node are those that are there and whose spots have it as their holder; the root has no spot." */
    private static void childrenAreThereAndHaveSpotsBelow() {
        Threewayleaf x = new Threewayleaf();
        x.put(0, 0, 0, LIST, 1);
        Check.due("the root is no child", Check.childrenOf(x, -1, 0), "1,");
        Check.due("nor of a child", x.children(-1, 1), 0);
        Check.refused("it is never moved", x, Check.STATE, () -> x.move(0, 0, 1, 0));
        x.put(0, 0, 1, LEAF, 2);
        x.move(0, 2, 1, 0);
        Check.due("a child where its spot is", Check.childrenOf(x, -1, 1), "2,");
        Check.due("not where it was", Check.childrenOf(x, -1, 0), "1,");
        x.remove(0, 2);
        Check.due("what is not there is no child", x.children(-1, 1), 0);
        Check.due("of a LEAF there are none", x.children(-1, x.put(0, 0, 0, LEAF, 1)), 0);
    }

    /** "first the spots that are behind none, then, and each spot is followed by those that are behind it" */
    private static void spotsBehindOneThatNoNodeHas() {
        Threewayleaf x = new Threewayleaf();
        x.put(0, 0, 0, LEAF, 1);
        x.put(0, 0, 1, LEAF, 2);
        x.commit(0);
        x.fork(1);
        x.remove(0, 1);
        x.put(0, 0, 1, LEAF, 3);
        x.put(1, 0, 1, LEAF, 4);
        Check.due("behind what is left", Check.childrenOf(x, -1, 0), "2,3,");
        Check.due("in between", Check.childrenOf(x, -2, 0), "1,4,2,");
        x.commit(0);
        x.commit(1);
        x.merge(0, 3);
        Check.due("the spot keeps its place without its node", Check.childrenOf(x, 4, 0), "4,2,3,");
        x.move(0, 4, 0, 2);
        x.put(0, 0, 0, LEAF, 5);
        Check.due("behind none is ahead of all", Check.childrenOf(x, -1, 0), "5,2,3,4,");
    }

    /** "of several behind the same one (or behind none), the greater number comes first, with all that follows it" */
    private static void theGreaterOneComesFirstWithAllThatFollows() {
        for (int first = 0; first <= 1; first++) {
            Threewayleaf x = new Threewayleaf();
            x.put(0, 0, 0, LEAF, 1);
            x.commit(0);
            x.fork(1);
            x.put(0, 0, first, LEAF, 2);
            x.put(1, 0, first, LEAF, 3);
            x.put(0, 0, first + 1, LEAF, 4);
            x.put(1, 0, first + 1, LEAF, 5);
            x.commit(0);
            x.commit(1);
            x.merge(1, 2);
            Check.due("behind none, or behind the same one", Check.childrenOf(x, 4, 0), first == 0 ? "3,5,2,4,1," : "1,3,5,2,4,");
        }
    }

    /** "The children of a LIST are in the order of their spots, those of a SET by their numbers; they have places from 0 on." */
    private static void listsBySpotsAndSetsByNumbers() {
        for (int kind = LIST; kind <= SET; kind++) {
            Threewayleaf x = new Threewayleaf();
            int holder = x.put(0, 0, 0, kind, 1);
            x.put(0, holder, 0, LEAF, 2);
            x.put(0, holder, 0, LEAF, 3);
            x.put(0, holder, 0, LEAF, 4);
            Check.due("the place 0", x.child(-1, holder, 0), kind == LIST ? 4 : 2);
            Check.due("the last place", x.child(-1, holder, 2), kind == LIST ? 2 : 4);
            Check.due("beyond it", x.child(-1, holder, 3), NONE);
            x.move(0, 3, holder, 2);
            Check.due("moved to the end", Check.childrenOf(x, -1, holder), kind == LIST ? "4,2,3," : "2,3,4,");
        }
    }

    /** "The depth of a node is how many nodes it is below." */
    private static void depthIsHowManyNodesItIsBelow() {
        Threewayleaf x = new Threewayleaf();
        int deep = 0;
        for (int depth = 1; depth <= 8; depth++) {
            deep = x.put(0, deep, 0, LIST, 1);
        }
        int deepest = deep;
        Check.refused("below eight nodes and the root", x, Check.STATE, () -> x.put(0, deepest, 0, LEAF, 1));
        x.put(0, 7, 0, LEAF, 1);
        Check.due("below eight nodes, the root among them", Check.childrenOf(x, -1, 7), "9,8,");
    }

    // ---- words

    /** "Words are numbered from 0, at most 120, in the order in which they are written" */
    private static void wordsAreNumberedAsTheyAreWritten() {
        Threewayleaf x = leavesInTwoBranches();
        x.write(0, 1, 0, 5);
        x.write(1, 2, 0, 5);
        Check.refused("no LEAF", x, Check.STATE, () -> x.write(0, 0, 0, 5));
        Check.refused("no sense", x, Check.ARGUMENT, () -> x.write(0, 1, 0, 100));
        Check.refused("no place", x, Check.ARGUMENT, () -> x.write(0, 1, 2, 5));
        x.write(0, 1, 0, 5);
        Check.due("what was refused took no number", Check.scriptOf(x, 1, -1), "!0;!2;");
        Check.due("the other branch", Check.scriptOf(x, 1, -2), "!1;");
        x.strike(1, 2, 0);
        x.write(1, 2, 0, 5);
        Check.due("the number of what was struck is not given again", Check.scriptOf(x, 1, -2), "!3;");
    }

    private static void thereAreAtMost120Words() {
        Threewayleaf x = leavesInTwoBranches();
        for (int word = 0; word < 119; word++) {
            x.write(word % 2, 1 + word % 2, 0, 5);
            if (word < 118) {
                x.strike(word % 2, 1 + word % 2, 0);
            }
        }
        Check.due("the last one but one", Check.scriptOf(x, 1, -1), "!118;");
        Check.due("the last one", x.write(1, 2, 0, 7), 1);
        Check.due("its number", Check.scriptOf(x, 1, -2), "!119;");
        for (int branch = 0; branch < 2; branch++) {
            int of = branch;
            Check.refused("120 words", x, Check.STATE, () -> x.write(of, 1, 0, 5));
            Check.refused("120 words, in the other LEAF", x, Check.STATE, () -> x.write(of, 2, 0, 5));
            Check.refused("120 words, but no sense", x, Check.ARGUMENT, () -> x.write(of, 1, 0, -1));
        }
        x.commit(1);
        x.commit(0);
        x.merge(0, 2);
        Check.due("the last one is joined", Check.scriptOf(x, 1, 4), "!118;!119;");
        Check.due("it can be struck", x.strike(0, 2, 0), 7);
        Check.due("a word that is struck leaves no room", x.words(-1, 2), 0);
        Check.refused("120 words still", x, Check.STATE, () -> x.write(0, 2, 0, 5));
    }

    /** The version 1 has the LEAVES 1 and 2 below the root; two branches. */
    private static Threewayleaf leavesInTwoBranches() {
        Threewayleaf x = new Threewayleaf();
        x.put(0, 0, 0, LEAF, 1);
        x.put(0, 0, 1, LEAF, 2);
        x.commit(0);
        x.fork(1);
        return x;
    }

    /** "a word is of a LEAF, has a sense, 0 to 99, a writer, which is a branch" */
    private static void sensesAndWriters() {
        Threewayleaf x = leavesInTwoBranches();
        for (int branch = 2; branch <= 4; branch++) {
            x.fork(1);
        }
        x.write(0, 1, 0, 0);
        x.write(4, 1, 0, 99);
        Check.due("the least sense and writer", x.word(-1, 1, 0), 0);
        Check.due("the greatest sense and writer", x.word(-5, 1, 0), 994);
        for (int sense : new int[] {-1, 100, LEAST, GREATEST}) {
            Check.refused("sense " + sense, x, Check.ARGUMENT, () -> x.write(0, 1, 0, sense));
        }
    }

    private static void writersStayWhereverTheWordIs() {
        Threewayleaf x = leavesInTwoBranches();
        x.write(1, 1, 0, 3);
        x.commit(1);
        x.merge(0, 2);
        Check.due("in another branch", x.word(-1, 1, 0), 31);
        Check.due("the sense that is struck in another branch", x.strike(0, 1, 0), 3);
    }

    /** "and is behind another word of this LEAF, or behind none"; "in an order that is told as that of spots" */
    private static void orderOfWords() {
        Threewayleaf x = leavesInTwoBranches();
        x.write(0, 1, 0, 10);
        x.write(0, 1, 1, 11);
        x.commit(0);
        x.merge(1, 2);
        x.strike(0, 1, 0);
        x.write(0, 1, 0, 12);
        x.write(0, 1, 1, 13);
        x.write(0, 1, 3, 14);
        x.write(1, 1, 1, 15);
        Check.due("behind none, in between and at the end", Check.sensesOf(x, -1, 1), "12,13,11,14,");
        Check.due("behind one", Check.sensesOf(x, -2, 1), "10,15,11,");
        x.commit(0);
        x.commit(1);
        x.merge(0, 4);
        Check.due("a word that is struck keeps its place", Check.sensesOf(x, 5, 1), "12,13,15,11,14,");
    }

    private static void theGreaterWordComesFirstWithAllThatFollows() {
        for (int first = 0; first <= 1; first++) {
            Threewayleaf x = leavesInTwoBranches();
            x.write(0, 1, 0, 10);
            x.commit(0);
            x.merge(1, 2);
            x.write(0, 1, first, 20);
            x.write(1, 1, first, 30);
            x.write(0, 1, first + 1, 21);
            x.write(1, 1, first + 1, 31);
            x.commit(0);
            x.commit(1);
            x.merge(0, 4);
            Check.due("behind none, or behind the same one", Check.sensesOf(x, 5, 1), first == 0 ? "30,31,20,21,10," : "10,30,31,20,21,");
        }
    }

    /** "the words of a LEAF that is not there are not said" */
    private static void wordsOfALeafThatIsNotThere() {
        Threewayleaf x = new Threewayleaf();
        x.put(0, 0, 0, LIST, 1);
        x.put(0, 1, 0, LEAF, 2);
        x.put(0, 0, 1, LEAF, 3);
        x.write(0, 2, 0, 5);
        x.write(0, 3, 0, 6);
        x.commit(0);
        x.fork(1);
        x.remove(0, 1);
        Check.due("not said any more", Check.scriptOf(x, 1, -1), "~0;-1;-2;");
        x.commit(0);
        x.retag(1, 3, 9);
        x.commit(1);
        Check.due("nor in what is joined", x.merge(1, 2), 4);
        Check.due("the script tells it", Check.scriptOf(x, 4, 0), "~1;-3;");
        x.fork(1);
        x.write(2, 2, 1, 7);
        x.commit(2);
        x.merge(2, 2);
        Check.due("of one that is back all are", Check.sensesOf(x, -3, 2), "5,7,");
        x.settle(2, 2, GONE, 0);
        Check.due("not if it is settled", Check.scriptOf(x, 6, -3), "~0;~2;-2;");
    }

    // ---- conflicts

    /** The version 4 joins two tags of the LEAF 1, 6 and 8; the branches 0 and 1 stand there. */
    private static Threewayleaf twoTags() {
        Threewayleaf x = leavesInTwoBranches();
        x.retag(0, 1, 8);
        x.retag(1, 1, 6);
        x.commit(0);
        x.commit(1);
        x.merge(0, 3);
        x.merge(1, 4);
        return x;
    }

    /** "In a state a node that is there can have conflicts, at most one of each kind" */
    private static void atMostOneConflictOfAKind() {
        Threewayleaf x = twoTags();
        Check.due("one", x.conflicts(4), 1);
        x.retag(0, 1, 3);
        x.retag(1, 1, 2);
        x.move(0, 1, 0, 0);
        x.move(1, 1, 0, 0);
        x.commit(0);
        x.commit(1);
        x.merge(0, 6);
        Check.due("one of each of two kinds", x.conflicts(7), 2);
        Check.due("the tags of now", x.option(7, 1, TAGGED, 0) * 10 + x.option(7, 1, TAGGED, 1), 23);
        x.remove(0, 1);
        Check.due("a node that is not there has none", x.conflicts(-1), 0);
    }

    /** "The two of a conflict, its options, are told the lesser one first." */
    private static void theLesserOptionIsToldFirst() {
        Threewayleaf x = twoTags();
        Check.due("lesser", x.option(4, 1, TAGGED, 0), 6);
        Check.due("greater", x.option(4, 1, TAGGED, 1), 8);
        Check.due("the other way round, too", x.joined(3, 2), x.joined(2, 3));
        x.retag(0, 1, 1);
        Check.due("whatever its tag is then", x.option(-1, 1, TAGGED, 0), 6);
        Check.due("the first choice is the lesser one", settledTag(x, 0, 1, 0), 6);
        Check.due("the second choice is the greater one", settledTag(x, 1, 1, 1), 8);
    }

    /** "AIMED, with two aims (none counts as -1)" */
    private static void noneCountsAsMinusOne() {
        for (int none = 0; none <= 1; none++) {
            Threewayleaf x = new Threewayleaf();
            x.put(0, 0, 0, LINK, 1);
            x.aim(0, 1, 1);
            x.commit(0);
            x.fork(1);
            x.aim(none, 1, NONE);
            x.aim(1 - none, 1, 0);
            x.commit(0);
            x.commit(1);
            x.merge(0, 3);
            Check.due("none is lesser than the root", x.option(4, 1, AIMED, 0), NONE);
            Check.due("the root is the greater one", x.option(4, 1, AIMED, 1), 0);
            Check.due("so it aims at none", x.aimOf(4, 1), NONE);
            long link = Check.printOf(3, 1, 0, 0, 0, 1000 * -1 + 0 + 2, 0, 0);
            Check.due("its print", x.print(4), Check.printOf(0, 0, 0, link, 0, 0, 0, 0, 0));
        }
    }

    // ---- versions, branches and views

    /** "Versions are numbered from 0, at most 40" */
    private static void thereAreAtMost40Versions() {
        for (int way = 0; way < 4; way++) {
            Threewayleaf x = twoLinesUpTo(39);
            Check.due("39 versions", x.versions(), 39);
            switch (way) {
                case 0:
                    x.retag(0, 1, 5);
                    Check.due("the last one", x.commit(0), 39);
                    break;
                case 1:
                    Check.due("the last one", x.merge(0, 2), 39);
                    break;
                case 2:
                    Check.due("the last one", x.pick(0, 2), 39);
                    break;
                default:
                    Check.due("the last one", x.revert(0, 3), 39);
                    break;
            }
            Check.due("40 versions", x.versions(), 40);
            Check.due("the head", x.head(0), 39);
            Check.due("a view of the last one", x.print(39), x.print(-1));
            Check.fails("no version 40", Check.INDEX, () -> x.print(40));
            Check.refused("40 versions: pick", x, Check.STATE, () -> x.pick(1, 1));
            Check.refused("40 versions: revert", x, Check.STATE, () -> x.revert(1, 1));
            Check.due("nothing happens, so there is room", x.merge(0, 38), 39);
        }
    }

    private static void beyond40Versions() {
        Threewayleaf x = twoLinesUpTo(40);
        Check.due("40 versions", x.versions(), 40);
        Check.refused("40 versions: merge", x, Check.STATE, () -> x.merge(0, 2));
        Check.due("joining them needs none", x.joined(39, 2), x.joined(2, 39));
        Check.due("nor what may be broken", x.against(39, 2), 0);
        x.fork(1);
        Check.due("nor the head that is older", x.merge(2, 39), 39);
        x.retag(1, 1, 9);
        Check.refused("40 versions: commit", x, Check.STATE, () -> x.commit(1));
        Check.due("the edit is there still", x.tag(-2, 1), 9);
    }

    /** The branch 1 has the version 2 alone, the branch 0 all others, as many as are told. */
    private static Threewayleaf twoLinesUpTo(int versions) {
        Threewayleaf x = leavesInTwoBranches();
        x.write(1, 2, 0, 50);
        x.commit(1);
        for (int version = 3; version < versions; version++) {
            x.retag(0, 1, version % 3 + 2);
            x.commit(0);
        }
        return x;
    }

    /** "each has a state, which never changes" */
    private static void theStateOfAVersionNeverChanges() {
        Threewayleaf x = twoTags();
        String before = Check.scriptOf(x, 0, 4);
        long print = x.print(4);
        x.retag(0, 1, 0);
        x.write(0, 1, 0, 1);
        x.put(0, 0, 0, LEAF, 1);
        x.move(0, 1, 0, 1);
        x.settle(0, 1, TAGGED, 1);
        x.remove(0, 2);
        x.commit(0);
        x.merge(1, 5);
        Check.due("its print", x.print(4), print);
        Check.due("what is there", Check.scriptOf(x, 0, 4), before);
        Check.due("its conflicts", x.conflicts(4), 1);
        Check.due("its order", Check.childrenOf(x, 4, 0), "1,2,");
        x.reset(0);
        x.retag(0, 1, 9);
        Check.due("the version that the desk came from", x.tag(5, 1), 8);
    }

    /** "and parents: none, one, or two versions. The version 0 has the root alone, and no parent." */
    private static void parentsAreNoneOneOrTwo() {
        Threewayleaf x = twoTags();
        Check.due("none", x.parent(0, 0), NONE);
        Check.due("none at all", x.parent(0, 1), NONE);
        Check.due("one", x.parent(3, 0), 1);
        Check.due("one alone", x.parent(3, 1), NONE);
        Check.due("two", x.parent(4, 0), 2);
        Check.due("the second one", x.parent(4, 1), 3);
        Check.due("the root alone", Check.scriptOf(x, 4, 0), "-1;-2;");
        Check.due("the root is there", x.isThere(0, 0), true);
    }

    /** "Branches are numbered from 0, at most 5"; "The branch 0 begins with the version 0." */
    private static void thereAreAtMost5Branches() {
        Threewayleaf x = new Threewayleaf();
        Check.due("the branch 0", x.head(0), 0);
        for (int branch = 1; branch <= 4; branch++) {
            int next = branch;
            Check.fails("not yet", Check.INDEX, () -> x.head(next));
            Check.fails("no desk yet", Check.INDEX, () -> x.print(-1 - next));
            Check.due("the branch", x.fork(0), branch);
        }
        Check.refused("5 branches", x, Check.STATE, () -> x.fork(0));
        Check.fails("no branch 5", Check.INDEX, () -> x.head(5));
        Check.due("an edit of the last one", x.put(4, 0, 0, LEAF, 1), 1);
        Check.due("a version of the last one", x.commit(4), 1);
        Check.refused("5 branches still", x, Check.STATE, () -> x.fork(1));
    }

    /** "A branch is clean if its desk is the same as the state of its head." */
    private static void cleanIsTheSameAsTheHead() {
        Threewayleaf x = twoTags();
        Check.due("clean", x.isClean(0), true);
        x.settle(0, 1, TAGGED, 0);
        Check.due("the tag is the same, the conflict is gone", x.isClean(0), false);
        x.reset(0);
        x.put(0, 0, 0, LEAF, 1);
        x.remove(0, 3);
        Check.due("clean again without the node", x.isClean(0), true);
        x.write(0, 2, 0, 1);
        Check.due("a word more", x.isClean(0), false);
        x.strike(0, 2, 0);
        Check.due("clean again without the word", x.isClean(0), true);
        x.move(0, 1, 0, 0);
        Check.due("another spot at the same place", x.isClean(0), false);
        Check.due("with the same print", x.print(-1), x.print(4));
        x.reset(0);
        x.retag(0, 2, 2);
        Check.due("the same tag", x.isClean(0), true);
        x.remove(0, 2);
        Check.due("a node less", x.isClean(0), false);
    }

    /** "A version is older than another one if it is a parent of it, or older than one of its parents." */
    private static void olderByEitherParent() {
        Threewayleaf x = twoTags();
        x.retag(0, 2, 5);
        x.commit(0);
        x.fork(3);
        for (int version = 0; version <= 5; version++) {
            Check.due("nothing happens", x.merge(0, version), 5);
            Check.due("the older one is the base", x.bases(version, 5), 1);
            Check.due("what comes of it", x.joined(version, 5), x.print(5));
        }
        Check.due("no version was made", x.versions(), 6);
        Check.due("older by the second parent", x.merge(2, 5), 5);
        x.fork(0);
        Check.due("older than all", x.merge(3, 5), 5);
        Check.due("no version was made", x.versions(), 6);
        x.fork(2);
        x.merge(4, 3);
        Check.due("neither is older: both are joined", x.head(4), 6);
    }

    /** "A view is a version, 0 or more, or a desk, told as -1 less the number of the branch." */
    private static void viewsAreVersionsAndDesks() {
        Threewayleaf x = new Threewayleaf();
        for (int branch = 0; branch <= 4; branch++) {
            if (branch > 0) {
                x.fork(0);
            }
            x.retag(branch, 0, 1 + branch);
            Check.due("the desk", x.tag(-1 - branch, 0), 1 + branch);
        }
        Check.due("the version", x.tag(0, 0), 0);
        for (int view : new int[] {1, -6, 40, LEAST, LEAST + 1, GREATEST}) {
            Check.fails("no view " + view, Check.INDEX, () -> x.tag(view, 0));
        }
    }

    /** "An object is used for at most 512 calls": it answers up to the last one. */
    private static void thereAre512Calls() {
        Threewayleaf x = new Threewayleaf();
        x.put(0, 0, 0, LEAF, 1);
        for (int call = 2; call < 512; call++) {
            x.retag(0, 1, call % 10);
        }
        Check.due("the call 512", x.tag(-1, 1), 1);
    }

    public static void main(String[] args) {
        nodesAreNumberedAsTheyArePut();
        thereAreAtMost40Nodes();
        theRootIsThereInEachState();
        kindsAreForEver();
        tagsAre0To9();
        linksAloneHaveAims();
        spotsAreNumberedAsTheyAreMade();
        thereAreAtMost120Spots();
        spotsAreBehindOthersOfTheirHolder();
        noTwoNodesHaveOneSpot();
        childrenAreThereAndHaveSpotsBelow();
        spotsBehindOneThatNoNodeHas();
        theGreaterOneComesFirstWithAllThatFollows();
        listsBySpotsAndSetsByNumbers();
        depthIsHowManyNodesItIsBelow();
        wordsAreNumberedAsTheyAreWritten();
        thereAreAtMost120Words();
        sensesAndWriters();
        writersStayWhereverTheWordIs();
        orderOfWords();
        theGreaterWordComesFirstWithAllThatFollows();
        wordsOfALeafThatIsNotThere();
        atMostOneConflictOfAKind();
        theLesserOptionIsToldFirst();
        noneCountsAsMinusOne();
        thereAreAtMost40Versions();
        beyond40Versions();
        theStateOfAVersionNeverChanges();
        parentsAreNoneOneOrTwo();
        thereAreAtMost5Branches();
        cleanIsTheSameAsTheHead();
        olderByEitherParent();
        viewsAreVersionsAndDesks();
        thereAre512Calls();
        Check.end("terms, at their bounds");
    }
}
