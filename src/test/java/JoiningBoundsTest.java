/**
 * Joining, as the document tells of it ahead of its first promise: of the three values, of what is
 * touched, of (1) to (4) and of the base, each sentence at its bounds. Each joining is held to come to
 * the same from both sides and by script.
 */
public final class JoiningBoundsTest {
    private static final int NONE = Threewayleaf.NONE;
    private static final int LIST = Threewayleaf.LIST, LEAF = Threewayleaf.LEAF, LINK = Threewayleaf.LINK;
    private static final int MOVED = Threewayleaf.MOVED, TAGGED = Threewayleaf.TAGGED, AIMED = Threewayleaf.AIMED, GONE = Threewayleaf.GONE, RING = Threewayleaf.RING;

    /** The nodes of ready(). */
    private static final int LEFT = 1, RIGHT = 2, NOTE = 3, ARROW = 4, OTHER = 5;

    /** LEFT and RIGHT (LISTs, tagged 1 and 2) below the root, NOTE (a LEAF, saying 50) and ARROW (a LINK) in LEFT, OTHER (a LEAF) in RIGHT; two branches of the version 1. */
    private static Threewayleaf ready() {
        Threewayleaf x = new Threewayleaf();
        x.put(0, 0, 0, LIST, 1);
        x.put(0, 0, 1, LIST, 2);
        x.put(0, LEFT, 0, LEAF, 3);
        x.put(0, LEFT, 1, LINK, 4);
        x.put(0, RIGHT, 0, LEAF, 5);
        x.write(0, NOTE, 0, 50);
        x.commit(0);
        x.fork(1);
        return x;
    }

    /** The version that the heads of two branches come to, in the first one of them. */
    private static int join(Threewayleaf x, int branch, int from) {
        int one = x.head(branch);
        int other = x.head(from);
        long print = x.joined(one, other);
        Check.due("from the other side", x.joined(other, one), print);
        Check.due("by script", x.joinedByScript(one, other), print);
        Check.due("by script, from the other side", x.joinedByScript(other, one), print);
        int version = x.merge(branch, other);
        Check.due("what is joined", x.print(version), print);
        return version;
    }

    private static int commitAndJoin(Threewayleaf x) {
        x.commit(0);
        x.commit(1);
        return join(x, 0, 1);
    }

    private static void dueOptions(String what, Threewayleaf x, int node, int kind, int first, int second) {
        Check.due(what + ": first option", x.option(-1, node, kind, 0), first);
        Check.due(what + ": second option", x.option(-1, node, kind, 1), second);
    }

    private static void dueNone(String what, Threewayleaf x, int node, int kind) {
        Check.fails(what, Check.ELEMENT, () -> x.option(-1, node, kind, 0));
    }

    // ---- "To take three values b, x and y is: x if x and y are the same; otherwise y if b and x are
    // ---- the same; otherwise x if b and y are the same; otherwise they are at odds."

    private static boolean areAtOdds(int b, int x, int y) {
        return x != y && b != x && b != y;
    }

    private static int taken(int b, int x, int y) {
        if (areAtOdds(b, x, y)) {
            return x < y ? x : y;
        }
        return x == y ? x : b == x ? y : x;
    }

    private static void threeTags() {
        for (int b = 0; b < 3; b++) {
            for (int i = 0; i < 9; i++) {
                Threewayleaf x = new Threewayleaf();
                x.put(0, 0, 0, LEAF, b);
                x.commit(0);
                x.fork(1);
                x.retag(0, 1, i / 3);
                x.retag(1, 1, i % 3);
                dueTaken(x, TAGGED, b, i / 3, i % 3);
            }
        }
    }

    private static void threeAims() {
        for (int b = NONE; b < 2; b++) {
            for (int i = 0; i < 9; i++) {
                Threewayleaf x = new Threewayleaf();
                x.put(0, 0, 0, LINK, 5);
                x.aim(0, 1, b);
                x.commit(0);
                x.fork(1);
                x.aim(0, 1, i / 3 - 1);
                x.aim(1, 1, i % 3 - 1);
                dueTaken(x, AIMED, b, i / 3 - 1, i % 3 - 1);
            }
        }
    }

    private static void dueTaken(Threewayleaf x, int kind, int b, int inX, int inY) {
        x.put(0, 0, 0, LEAF, 9);
        x.put(1, 0, 0, LEAF, 9);
        commitAndJoin(x);
        String what = "of " + b + ", " + inX + " and " + inY;
        Check.due(what, kind == TAGGED ? x.tag(-1, 1) : x.aimOf(-1, 1), taken(b, inX, inY));
        Check.due(what + ": at odds", x.conflicts(-1), areAtOdds(b, inX, inY) ? 1 : 0);
        if (areAtOdds(b, inX, inY)) {
            dueOptions(what, x, 1, kind, Math.min(inX, inY), Math.max(inX, inY));
        }
    }

    private static void threeSpots() {
        for (int way = 0; way < 4; way++) {
            Threewayleaf x = ready();
            x.retag(0, OTHER, 6);
            x.retag(1, RIGHT, 6);
            if (way != 1) {
                x.move(0, NOTE, RIGHT, 0);
            }
            if (way == 1 || way == 2) {
                x.move(1, NOTE, 0, 0);
            }
            x.commit(0);
            x.commit(1);
            if (way == 3) {
                x.pick(1, 2);
            }
            join(x, 0, 1);
            Check.due("the spot of the one that moved it, or the lesser one", x.holder(-1, NOTE), way == 1 ? 0 : RIGHT);
            Check.due("at odds if both moved it, each in its way", x.conflicts(-1), way == 2 ? 1 : 0);
        }
    }

    private static void spotsAtOddsTakeTheLesserNumber() {
        Threewayleaf x = ready();
        x.move(1, NOTE, 0, 0);
        x.move(0, NOTE, RIGHT, 0);
        commitAndJoin(x);
        Check.due("the one that was made first", x.holder(-1, NOTE), 0);
        dueOptions("told by holders, the lesser spot first", x, NOTE, MOVED, 0, RIGHT);
    }

    // ---- "A node that is not there has no spot, no tag and no aim, told as -2 each."

    /** The nodes 1 to 3 (a LIST, a LINK, a LEAF saying 50) are in the branches 0 and 1, but not in the version 0, where these come from. */
    private static Threewayleaf pickedApart() {
        Threewayleaf x = new Threewayleaf();
        x.put(0, 0, 0, LIST, 1);
        x.put(0, 0, 1, LINK, 0);
        x.put(0, 0, 2, LEAF, 3);
        x.write(0, 3, 0, 50);
        x.commit(0);
        x.fork(0);
        x.pick(1, 1);
        return x;
    }

    private static void notThereInTheBase() {
        Threewayleaf x = pickedApart();
        Check.due("the base has none of them", x.bases(1, 2), 1);
        Check.due("all are the same", x.joined(1, 2), x.print(1));
        Check.due("all are the same, by script", x.joinedByScript(1, 2), x.print(1));
        x.move(0, 3, 1, 0);
        x.retag(0, 3, 0);
        x.aim(0, 2, 0);
        x.strike(0, 3, 0);
        x.write(0, 3, 0, 60);
        x.commit(0);
        join(x, 0, 1);
        Check.due("three are at odds, though one side alone changed them", x.conflicts(-1), 3);
        dueOptions("tags", x, 3, TAGGED, 0, 3);
        dueOptions("spots", x, 3, MOVED, 0, 1);
        dueOptions("aims", x, 2, AIMED, NONE, 0);
        Check.due("the lesser tag", x.tag(-1, 3), 0);
        Check.due("the lesser spot", x.holder(-1, 3), 0);
        Check.due("the lesser aim", x.aimOf(-1, 2), NONE);
        Check.due("a word that was not said in the base is said if one side says it", Check.sensesOf(x, -1, 3), "60,50,");
    }

    /** "(none, if it has none of the kind or is not there ..)" */
    private static void conflictsOfANodeThatIsNotThereInTheBase() {
        Threewayleaf x = pickedApart();
        x.fork(1);
        x.retag(0, 3, 8);
        x.retag(2, 3, 9);
        x.commit(0);
        x.commit(2);
        x.merge(0, 4);
        x.retag(1, 3, 8);
        x.commit(1);
        join(x, 0, 1);
        Check.due("the same tag", x.tag(-1, 3), 8);
        Check.due("the conflict of the one that has it", x.conflicts(-1), 1);
        dueOptions("its options", x, 3, TAGGED, 8, 9);
    }

    // ---- (1) conflicts

    /** Both branches have the tags 7 and 8 of NOTE at odds, in the version 4. */
    private static Threewayleaf atOdds() {
        Threewayleaf x = ready();
        x.retag(0, NOTE, 7);
        x.retag(1, NOTE, 8);
        x.commit(0);
        x.commit(1);
        x.merge(0, 3);
        x.merge(1, 4);
        return x;
    }

    /** "Its conflicts of the kinds that it does not get so are taken from the three" */
    private static void conflictsAreTakenFromTheThree() {
        for (int way = 0; way < 4; way++) {
            Threewayleaf x = atOdds();
            x.retag(0, OTHER, 6);
            x.retag(1, RIGHT, 6);
            if ((way & 1) != 0) {
                x.settle(0, NOTE, TAGGED, 0);
            }
            if ((way & 2) != 0) {
                x.settle(1, NOTE, TAGGED, 0);
            }
            commitAndJoin(x);
            Check.due("it stays if none settled it, way " + way, x.conflicts(-1), way == 0 ? 1 : 0);
            Check.due("the tag is the same, way " + way, x.tag(-1, NOTE), 7);
        }
    }

    /** Of each kind: settled by one side, so that nothing else changes, it is settled; all others stay. */
    private static void eachKindCanBeSettledByOneSide() {
        for (int kind = MOVED; kind <= RING; kind++) {
            for (int branch = 0; branch < 2; branch++) {
                Threewayleaf x = ofEachKind();
                int node = kind <= AIMED ? ARROW : kind == GONE ? NOTE : LEFT;
                x.settle(branch, node, kind, kind == GONE ? 1 : 0);
                x.retag(1 - branch, OTHER, 6);
                commitAndJoin(x);
                dueNone("settled, kind " + kind, x, node, kind);
                Check.due("the others stay, kind " + kind, x.conflicts(-1), 5);
                Check.due("settled alone, kind " + kind, Check.scriptOf(x, 4, -1), "#5;?" + node + ";");
            }
        }
    }

    /** In the version 4, where both branches stand, ARROW has MOVED, TAGGED and AIMED, NOTE has GONE, LEFT and RIGHT have RING. */
    private static Threewayleaf ofEachKind() {
        Threewayleaf x = ready();
        x.move(0, ARROW, RIGHT, 0);
        x.move(1, ARROW, 0, 0);
        x.retag(0, ARROW, 7);
        x.retag(1, ARROW, 8);
        x.aim(0, ARROW, LEFT);
        x.aim(1, ARROW, RIGHT);
        x.remove(0, NOTE);
        x.retag(1, NOTE, 9);
        x.move(0, LEFT, RIGHT, 0);
        x.move(1, RIGHT, LEFT, 0);
        commitAndJoin(x);
        x.merge(1, 4);
        Check.due("one of each kind, and a second RING", x.conflicts(-2), 6);
        return x;
    }

    private static void bothSettledItInTheirWay() {
        Threewayleaf x = atOdds();
        x.settle(0, NOTE, TAGGED, 0);
        x.settle(1, NOTE, TAGGED, 1);
        commitAndJoin(x);
        Check.due("the tag of the one that changed it", x.tag(-1, NOTE), 8);
        Check.due("settled", x.conflicts(-1), 0);
    }

    /** A node gets TAGGED by tags at odds; what it had of the kind is not looked at then. */
    private static void aNewConflictTakesThePlaceOfTheOldOne() {
        Threewayleaf x = atOdds();
        x.retag(0, NOTE, 1);
        x.retag(1, NOTE, 9);
        commitAndJoin(x);
        dueOptions("the tags of now", x, NOTE, TAGGED, 1, 9);
        Check.due("one alone", x.conflicts(-1), 1);
    }

    private static void otherKindsStay() {
        Threewayleaf x = atOdds();
        x.move(0, NOTE, 0, 0);
        x.move(1, NOTE, RIGHT, 0);
        commitAndJoin(x);
        dueOptions("what it gets", x, NOTE, MOVED, 0, RIGHT);
        dueOptions("what it has", x, NOTE, TAGGED, 7, 8);
        Check.due("two of them", x.conflicts(-1), 2);
    }

    /** Tags at odds of the branches 0 and 1, and of 2 and 3; then 0 and 2 are retagged alike. */
    private static Threewayleaf twoPairsAtOdds(int[] tags) {
        Threewayleaf x = ready();
        x.fork(1);
        x.fork(1);
        for (int branch = 0; branch < 4; branch++) {
            x.retag(branch, NOTE, tags[branch]);
            x.commit(branch);
        }
        x.merge(0, x.head(1));
        x.merge(2, x.head(3));
        for (int branch = 0; branch < 4; branch += 2) {
            x.retag(branch, NOTE, 0);
            x.commit(branch);
        }
        return x;
    }

    /** "if these are at odds, it is the one with the lesser first option, of the same with the lesser second one" */
    private static void conflictsAtOdds() {
        Threewayleaf x = twoPairsAtOdds(new int[] {5, 9, 6, 7});
        Check.due("one base", x.bases(x.head(0), x.head(2)), 1);
        join(x, 0, 2);
        dueOptions("the lesser first one, though the second one is greater", x, NOTE, TAGGED, 5, 9);
        Threewayleaf y = twoPairsAtOdds(new int[] {5, 9, 7, 5});
        join(y, 0, 2);
        dueOptions("the same first one, the lesser second one", y, NOTE, TAGGED, 5, 7);
        Threewayleaf z = twoPairsAtOdds(new int[] {9, 5, 5, 9});
        join(z, 2, 0);
        Check.due("the same conflict", z.option(-3, NOTE, TAGGED, 1), 9);
    }

    /** "and if one of x and y is none, the other one" */
    private static void conflictsAtOddsWithNone() {
        Threewayleaf x = atOdds();
        x.fork(4);
        x.retag(1, NOTE, 5);
        x.retag(2, NOTE, 6);
        x.settle(0, NOTE, TAGGED, 0);
        for (int branch = 0; branch < 3; branch++) {
            x.commit(branch);
        }
        x.merge(1, x.head(2));
        Check.due("another one than in the base", x.option(-2, NOTE, TAGGED, 0), 5);
        Check.due("the base has 7 and 8", x.bases(x.head(0), x.head(1)), 1);
        join(x, 0, 1);
        Check.due("the tag of the one that changed it", x.tag(-1, NOTE), 5);
        dueOptions("the one that is not none", x, NOTE, TAGGED, 5, 6);
    }

    /** "Each of its words is said or not as taken from the three." */
    private static void wordsOfThree() {
        for (int way = 0; way < 8; way++) {
            boolean inX = (way & 1) != 0;
            boolean inY = (way & 2) != 0;
            boolean isNew = (way & 4) != 0;
            Threewayleaf x = ready();
            x.retag(0, OTHER, 6);
            x.retag(1, RIGHT, 6);
            for (int branch = 0; branch < 2; branch++) {
                boolean isSaid = branch == 0 ? inX : inY;
                if (isNew && isSaid) {
                    x.write(branch, NOTE, 0, 60 + branch);
                }
                if (!isNew && !isSaid) {
                    x.strike(branch, NOTE, 0);
                }
            }
            commitAndJoin(x);
            String due = isNew ? (inY ? "61," : "") + (inX ? "60," : "") + "50," : inX && inY ? "50," : "";
            Check.due("way " + way, Check.sensesOf(x, -1, NOTE), due);
            Check.due("words are never at odds, way " + way, x.conflicts(-1), 0);
        }
    }

    // ---- (2) nodes that are there in just one of both

    /** "A node that is there in just one of X and Y is there if it is not there in B": as in that one. */
    private static void whatOneAlonePut() {
        for (int branch = 0; branch < 2; branch++) {
            Threewayleaf x = ready();
            int link = x.put(branch, RIGHT, 1, LINK, 9);
            x.aim(branch, link, ARROW);
            int leaf = x.put(branch, RIGHT, 0, LEAF, 0);
            x.write(branch, leaf, 0, 77);
            x.retag(1 - branch, NOTE, 6);
            commitAndJoin(x);
            Check.due("their spots", Check.childrenOf(x, -1, RIGHT), "7,5,6,");
            Check.due("a tag", x.tag(-1, link), 9);
            Check.due("an aim", x.aimOf(-1, link), ARROW);
            Check.due("a word", x.word(-1, leaf, 0), 770 + branch);
            Check.due("without a conflict", x.conflicts(-1), 0);
        }
    }

    private static void whatOneAlonePutWithItsConflicts() {
        Threewayleaf x = ready();
        x.fork(1);
        int leaf = x.put(0, RIGHT, 1, LEAF, 9);
        x.commit(0);
        x.merge(1, 2);
        x.retag(0, leaf, 7);
        x.retag(1, leaf, 8);
        commitAndJoin(x);
        x.retag(2, NOTE, 6);
        x.commit(2);
        join(x, 0, 2);
        Check.due("its conflict alone", x.conflicts(-1), 1);
        dueOptions("its conflict", x, leaf, TAGGED, 7, 8);
    }

    /** ".. or if it is touched in the one where it is there"; a node that is not is removed, from whichever side. */
    private static void whatIsNotTouchedIsRemoved() {
        for (int branch = 0; branch < 2; branch++) {
            Threewayleaf x = ready();
            x.remove(branch, LEFT);
            x.retag(1 - branch, RIGHT, 9);
            commitAndJoin(x);
            Check.due("it is not there", Check.childrenOf(x, -1, 0), "2,");
            Check.due("nor what was below it", x.isThere(-1, NOTE), false);
            Check.due("without a conflict", x.conflicts(-1), 0);
            Check.due("its word is not said", Check.scriptOf(x, -1, 1), "+1;+3;+4;#2;!0;");
        }
    }

    /** "if its spot, its tag, its aim, .. or which of its words are said, is not as in B" */
    private static void whatTouchesANode() {
        for (int way = 0; way < 12; way++) {
            int branch = way % 2;
            Threewayleaf x = ready();
            int node = way / 2 == 2 ? ARROW : NOTE;
            x.remove(1 - branch, node);
            switch (way / 2) {
                case 0:
                    x.move(branch, NOTE, LEFT, 0);
                    break;
                case 1:
                    x.retag(branch, NOTE, 0);
                    break;
                case 2:
                    x.aim(branch, ARROW, ARROW);
                    break;
                case 3:
                    x.write(branch, NOTE, 1, 60);
                    break;
                case 4:
                    x.strike(branch, NOTE, 0);
                    break;
                default:
                    x.write(branch, NOTE, 0, 50);
                    x.strike(branch, NOTE, 1);
                    break;
            }
            commitAndJoin(x);
            Check.due("it alone, way " + way, x.conflicts(-1), 1);
            dueOptions("gone, way " + way, x, node, GONE, 0, 0);
            int touched = way / 2;
            Check.due("its tag, way " + way, x.tag(-1, node), touched == 1 ? 0 : node);
            Check.due("its aim, way " + way, x.aimOf(-1, node), touched == 2 ? ARROW : NONE);
            String words = touched == 2 || touched == 4 ? "" : touched == 3 ? "50,60," : "50,";
            Check.due("its words, way " + way, Check.sensesOf(x, -1, node), words);
            Check.due("its spot, way " + way, Check.childrenOf(x, -1, LEFT), "3,4,");
        }
    }

    /** ".. a conflict of it .." */
    private static void aConflictAloneTouchesANode() {
        for (int branch = 0; branch < 2; branch++) {
            Threewayleaf x = atOdds();
            x.settle(branch, NOTE, TAGGED, 0);
            x.remove(1 - branch, NOTE);
            commitAndJoin(x);
            Check.due("it is there", x.tag(-1, NOTE), 7);
            Check.due("with one conflict", x.conflicts(-1), 1);
            dueOptions("gone", x, NOTE, GONE, 0, 0);
        }
    }

    /** "it has the conflict GONE, too" */
    private static void goneComesToTheConflictsThatItHas() {
        for (int branch = 0; branch < 2; branch++) {
            Threewayleaf x = atOdds();
            x.write(branch, NOTE, 0, 60);
            x.remove(1 - branch, NOTE);
            commitAndJoin(x);
            Check.due("two of them", x.conflicts(-1), 2);
            dueOptions("gone", x, NOTE, GONE, 0, 0);
            dueOptions("what it has", x, NOTE, TAGGED, 7, 8);
        }
    }

    private static void goneCanBeGoneAgain() {
        Threewayleaf x = ready();
        x.remove(0, NOTE);
        x.retag(1, NOTE, 9);
        commitAndJoin(x);
        x.merge(1, 4);
        x.remove(0, NOTE);
        x.retag(1, RIGHT, 9);
        commitAndJoin(x);
        Check.due("a conflict that is there in the base does not touch it", x.isThere(-1, NOTE), false);
        x.reset(0);
        x.fork(4);
        x.settle(2, NOTE, GONE, 1);
        x.commit(2);
        Check.due("settled, so it is touched", join(x, 0, 2), 9);
        dueOptions("gone again", x, NOTE, GONE, 0, 0);
    }

    /** "or if some child of it in X is not there in B": the child itself ends up elsewhere. */
    private static void aNewChildTouchesItsHolder() {
        Threewayleaf x = new Threewayleaf();
        x.put(0, 0, 0, LIST, 1);
        x.commit(0);
        x.fork(1);
        int leaf = x.put(0, 0, 1, LEAF, 2);
        x.commit(0);
        x.pick(1, 2);
        x.move(0, leaf, 1, 0);
        x.remove(1, 1);
        x.commit(0);
        x.commit(1);
        Check.due("the base has not the child", x.isThere(1, leaf), false);
        join(x, 0, 1);
        Check.due("the child is in the lesser spot", x.holder(-1, leaf), 0);
        Check.due("its holder in the other spot is there", Check.childrenOf(x, -1, 0), "1,2,");
        dueOptions("gone", x, 1, GONE, 0, 0);
        dueOptions("the child", x, leaf, MOVED, 0, 1);
        Check.due("two of them", x.conflicts(-1), 2);
    }

    /** ".. or has another spot there" */
    private static void aChildInAnotherSpotTouchesItsHolder() {
        for (int way = 0; way < 2; way++) {
            Threewayleaf x = ready();
            int child = way == 0 ? NOTE : OTHER;
            x.move(1, child, 0, 0);
            x.remove(1, LEFT);
            x.move(0, child, LEFT, 0);
            x.move(0, ARROW, RIGHT, 0);
            x.move(0, way == 0 ? OTHER : NOTE, 0, 0);
            commitAndJoin(x);
            Check.due("the child is in the lesser spot", x.holder(-1, child), 0);
            Check.due("its holder in the other spot is there", x.holder(-1, LEFT), 0);
            dueOptions("gone", x, LEFT, GONE, 0, 0);
        }
    }

    /** What is done to others does not touch a node: a child removed or moved away, or a LINK that aims at it. */
    private static void whatDoesNotTouchANode() {
        Threewayleaf x = ready();
        x.remove(0, NOTE);
        x.move(0, ARROW, RIGHT, 0);
        x.remove(1, LEFT);
        commitAndJoin(x);
        Check.due("it is not there", x.isThere(-1, LEFT), false);
        Check.due("what was moved away is", Check.childrenOf(x, -1, RIGHT), "4,5,");
        dueOptions("it is touched itself", x, ARROW, GONE, 0, 0);
        Check.due("it alone", x.conflicts(-1), 1);

        Threewayleaf y = ready();
        y.aim(0, ARROW, OTHER);
        y.remove(1, OTHER);
        y.commit(0);
        y.commit(1);
        Check.due("an aim does not touch what it aims at", y.against(2, 3), 2);
    }

    /** A child that is changed where it is, or gets a child itself, does not touch its holder. */
    private static void aChildInTheSameSpotDoesNotTouchItsHolder() {
        for (int branch = 0; branch < 2; branch++) {
            Threewayleaf x = ready();
            x.put(0, LEFT, 2, LIST, 6);
            x.commit(0);
            x.merge(1, 2);
            x.retag(branch, NOTE, 9);
            x.write(branch, NOTE, 0, 60);
            x.aim(branch, ARROW, RIGHT);
            x.put(branch, 6, 0, LEAF, 0);
            for (int child : new int[] {NOTE, ARROW, 6}) {
                x.move(1 - branch, child, 0, 0);
            }
            x.remove(1 - branch, LEFT);
            commitAndJoin(x);
            Check.due("it is not there", Check.childrenOf(x, -1, 0), "6,4,3,2,");
            Check.due("its children are as they were changed", x.tag(-1, NOTE) * 10 + x.aimOf(-1, ARROW), 92);
            Check.due("with their own", Check.childrenOf(x, -1, 6), "7,");
            Check.due("without a conflict", x.conflicts(-1), 0);
        }
    }

    private static void bothRemovedIt() {
        Threewayleaf x = ready();
        x.remove(0, NOTE);
        x.retag(1, NOTE, 9);
        x.remove(1, LEFT);
        commitAndJoin(x);
        Check.due("a node that is in neither is not there", x.isThere(-1, NOTE), false);
        Check.due("nor its holder, that is not touched", x.isThere(-1, LEFT), false);
        Check.due("without a conflict", x.conflicts(-1), 0);
    }

    // ---- (3) rings

    /** "each such node (that is below itself) gets the spot that it has in B, if it is there in B" */
    private static void aRingOfTwo() {
        Threewayleaf x = ready();
        x.move(0, LEFT, RIGHT, 0);
        x.move(1, RIGHT, LEFT, 0);
        commitAndJoin(x);
        Check.due("both as in the base", Check.childrenOf(x, -1, 0), "1,2,");
        Check.due("two of them", x.conflicts(-1), 2);
        dueOptions("a ring", x, LEFT, RING, 0, 0);
        dueOptions("a ring", x, RIGHT, RING, 0, 0);
        dueNone("not what is below", x, NOTE, RING);
    }

    /** The ring goes through a node that one alone put: it has no spot in B and one in X or Y. */
    private static void aRingThroughANewNode() {
        for (int branch = 0; branch < 2; branch++) {
            Threewayleaf x = ready();
            int list = x.put(branch, LEFT, 0, LIST, 9);
            x.move(branch, RIGHT, list, 0);
            x.move(1 - branch, LEFT, RIGHT, 0);
            commitAndJoin(x);
            Check.due("as in the base", Check.childrenOf(x, -1, 0), "1,2,");
            Check.due("as where it was put", Check.childrenOf(x, -1, LEFT), "6,3,4,");
            Check.due("three of them", x.conflicts(-1), 3);
            dueOptions("a ring", x, list, RING, 0, 0);
        }
    }

    /** The ring goes through a node that one side removed: it is there in B, so this spot is due, and it is gone, too. */
    private static void aRingThroughWhatIsGone() {
        for (int branch = 0; branch < 2; branch++) {
            Threewayleaf x = new Threewayleaf();
            x.put(0, 0, 0, LIST, 1);
            x.put(0, 0, 1, LIST, 2);
            x.put(0, 0, 2, LIST, 3);
            x.commit(0);
            x.fork(1);
            x.move(branch, 1, 2, 0);
            x.move(branch, 2, 3, 0);
            x.move(1 - branch, 3, 1, 0);
            x.remove(1 - branch, 2);
            commitAndJoin(x);
            Check.due("all as in the base", Check.childrenOf(x, -1, 0), "1,2,3,");
            for (int node = 1; node <= 3; node++) {
                dueOptions("a ring", x, node, RING, 0, 0);
            }
            dueOptions("gone", x, 2, GONE, 0, 0);
            Check.due("four of them", x.conflicts(-1), 4);
        }
    }

    /** "otherwise the greater one of its spots in X and Y" */
    private static void aRingOfNodesThatAreNotThereInTheBase() {
        for (int branch = 0; branch < 2; branch++) {
            Threewayleaf x = new Threewayleaf();
            x.put(0, 0, 0, LIST, 1);
            x.put(0, 1, 0, LIST, 2);
            x.commit(0);
            x.fork(0);
            x.pick(1, 1);
            x.move(branch, 2, 0, 0);
            x.move(branch, 1, 2, 0);
            x.move(1 - branch, 1, 0, 0);
            commitAndJoin(x);
            Check.due("both are in the greater one of two spots", Check.childrenOf(x, -1, 0), "1,2,");
            dueOptions("1 went round in the lesser one", x, 1, MOVED, 2, 0);
            dueOptions("2 went round in the lesser one", x, 2, MOVED, 1, 0);
            dueOptions("a ring", x, 1, RING, 0, 0);
            dueOptions("a ring", x, 2, RING, 0, 0);
            Check.due("four of them", x.conflicts(-1), 4);
        }
    }

    /** Two rings at once, and one that both sides had already. */
    private static void twoRingsAtOnce() {
        Threewayleaf x = new Threewayleaf();
        for (int node = 1; node <= 4; node++) {
            x.put(0, 0, node - 1, LIST, node);
        }
        x.commit(0);
        x.fork(1);
        x.move(0, 1, 2, 0);
        x.move(0, 3, 4, 0);
        x.move(1, 2, 1, 0);
        x.move(1, 4, 3, 0);
        commitAndJoin(x);
        Check.due("all as in the base", Check.childrenOf(x, -1, 0), "1,2,3,4,");
        Check.due("four of them", x.conflicts(-1), 4);
        x.merge(1, 4);
        x.settle(0, 1, RING, 0);
        x.settle(1, 2, RING, 1);
        commitAndJoin(x);
        Check.due("settled by one is settled", x.conflicts(-1), 2);
        dueNone("settled", x, 1, RING);
        dueNone("settled", x, 2, RING);
    }

    // ---- (4) holders

    /** "as long as the holder of the spot of some node that is there is not there: this holder is there, too, as in the one of X and Y in which it is there" */
    private static void holdersComeBackUpToTheFirstThatIsThere() {
        for (int branch = 0; branch < 2; branch++) {
            Threewayleaf x = new Threewayleaf();
            for (int node = 1; node <= 4; node++) {
                x.put(0, node - 1, 0, LIST, node);
            }
            x.put(0, 4, 0, LEAF, 5);
            x.put(0, 3, 1, LEAF, 6);
            x.commit(0);
            x.fork(1);
            x.remove(branch, 2);
            x.write(1 - branch, 5, 0, 50);
            commitAndJoin(x);
            for (int node = 2; node <= 5; node++) {
                dueOptions("gone", x, node, GONE, 0, 0);
                Check.due("its holder", x.holder(-1, node), node - 1);
                Check.due("its tag", x.tag(-1, node), node);
            }
            dueNone("the first one that is there", x, 1, GONE);
            Check.due("what nothing needs is not there", x.isThere(-1, 6), false);
            Check.due("four of them", x.conflicts(-1), 4);
        }
    }

    private static void holdersComeBackWithTheirConflicts() {
        Threewayleaf x = ready();
        x.retag(0, LEFT, 7);
        x.retag(1, LEFT, 8);
        commitAndJoin(x);
        x.merge(1, 4);
        x.remove(0, LEFT);
        x.write(1, NOTE, 0, 60);
        commitAndJoin(x);
        Check.due("three of them", x.conflicts(-1), 3);
        dueOptions("what it has", x, LEFT, TAGGED, 7, 8);
        dueOptions("gone", x, LEFT, GONE, 0, 0);
        dueOptions("gone", x, NOTE, GONE, 0, 0);
    }

    /** "or as in B, if it is in neither" */
    private static void holdersComeBackFromTheBase() {
        Threewayleaf x = new Threewayleaf();
        x.put(0, 0, 0, LIST, 1);
        x.put(0, 1, 0, LIST, 2);
        x.put(0, 2, 0, LIST, 3);
        x.put(0, 2, 1, LIST, 4);
        x.commit(0);
        x.fork(1);
        x.move(0, 3, 4, 0);
        x.move(1, 4, 3, 0);
        x.move(0, 4, 0, 0);
        x.move(1, 3, 0, 0);
        x.remove(0, 1);
        x.remove(1, 1);
        commitAndJoin(x);
        Check.due("3 and 4 went round: as in the base", Check.childrenOf(x, -1, 2), "3,4,");
        Check.due("their holder", x.holder(-1, 2), 1);
        Check.due("the holder of that", Check.childrenOf(x, -1, 0), "1,");
        for (int node = 1; node <= 4; node++) {
            dueOptions("gone, or a ring", x, node, node <= 2 ? GONE : RING, 0, 0);
            Check.due("its tag", x.tag(-1, node), node);
        }
        Check.due("two gone, two rings, two moved", x.conflicts(-1), 6);
    }

    // ---- the base

    /** "older than both, or one of both and older than the other, or both at once" */
    private static void whatIsCommon() {
        Threewayleaf x = atOdds();
        x.retag(0, OTHER, 6);
        x.commit(0);
        for (int version = 0; version <= 5; version++) {
            Check.due("both at once", x.bases(version, version), 1);
            Check.due("with itself", x.joined(version, version), x.print(version));
            Check.due("with itself, by script", x.joinedByScript(version, version), x.print(version));
            Check.due("with itself", x.against(version, version), 0);
            Check.due("one of both", x.bases(version, 0), 1);
            Check.due("with the version 0", x.joined(0, version), x.print(version));
            Check.due("with the last one", x.joined(version, 5), x.print(5));
            Check.due("with the last one, by script", x.joinedByScript(5, version), x.print(5));
        }
        Check.due("older than both", x.bases(2, 3), 1);
    }

    /** "the last ones of these are those that are not older than another one of them" */
    private static void howManyLastOnes() {
        Threewayleaf x = ready();
        x.retag(0, NOTE, 7);
        x.retag(1, OTHER, 7);
        x.commit(0);
        x.commit(1);
        x.merge(0, 3);
        x.merge(1, 2);
        Check.due("two that cross", x.bases(4, 5), 2);
        Check.due("from the other side", x.bases(5, 4), 2);
        Check.due("one of both", x.bases(4, 3), 1);
        x.merge(0, 5);
        x.retag(1, RIGHT, 7);
        x.commit(1);
        Check.due("a last one that is newer than both", x.bases(6, 7), 1);
    }

    /** "the state of the lowest one is joined with that of the next one (as versions, over their own base)" */
    private static void basesOfBases() {
        Threewayleaf x = ready();
        x.retag(0, NOTE, 7);
        x.retag(1, OTHER, 7);
        x.commit(0);
        x.commit(1);
        x.merge(0, 3);
        x.merge(1, 2);
        x.retag(0, NOTE, 3);
        x.retag(1, OTHER, 5);
        x.commit(0);
        x.commit(1);
        x.merge(0, 7);
        x.merge(1, 6);
        Check.due("taken back by each one", x.tag(8, NOTE) * 10 + x.tag(9, OTHER), 35);
        x.retag(0, NOTE, 1);
        x.retag(0, OTHER, 1);
        x.retag(1, RIGHT, 1);
        x.commit(0);
        x.commit(1);
        Check.due("two bases, which have two bases", x.bases(10, 11) * 10 + x.bases(6, 7), 22);
        join(x, 0, 1);
        Check.due("changed by one alone", x.tag(-1, NOTE) * 10 + x.tag(-1, OTHER), 11);
        Check.due("so nothing is at odds", x.conflicts(-1), 0);
    }

    /** "what comes of it with the state of the next one over the base of that one and the lowest one" */
    private static void threeBases() {
        Threewayleaf x = ready();
        x.retag(1, NOTE, 5);
        x.commit(1);
        x.fork(2);
        x.retag(0, OTHER, 7);
        x.commit(0);
        x.retag(1, NOTE, 6);
        x.commit(1);
        x.retag(2, RIGHT, 8);
        x.commit(2);
        x.merge(0, 4);
        x.merge(0, 5);
        x.merge(1, 3);
        x.merge(1, 5);
        Check.due("three bases", x.bases(7, 9), 3);
        Check.due("both have the tag", x.tag(7, NOTE) * 10 + x.tag(9, NOTE), 66);
        x.retag(0, NOTE, 7);
        x.commit(0);
        join(x, 0, 1);
        Check.due("3 and 4 come to 6, and over 1, the base of 3 and 5, to 5 at odds", x.tag(-1, NOTE), 6);
        dueOptions("so the base has another tag than both", x, NOTE, TAGGED, 6, 7);
        Check.due("one alone", x.conflicts(-1), 1);
    }

    /** "and so on": four bases, of which two have two bases each with the lowest one. */
    private static void fourBases() {
        Threewayleaf x = ready();
        x.retag(0, NOTE, 7);
        x.retag(1, OTHER, 7);
        x.commit(0);
        x.commit(1);
        x.merge(0, 3);
        x.merge(1, 2);
        x.fork(4);
        x.fork(5);
        x.retag(0, NOTE, 3);
        x.retag(2, RIGHT, 8);
        x.retag(1, OTHER, 5);
        x.retag(3, LEFT, 9);
        for (int branch : new int[] {0, 2, 1, 3}) {
            x.commit(branch);
        }
        for (int version : new int[] {7, 8, 9}) {
            x.merge(0, version);
        }
        for (int version : new int[] {6, 7, 9}) {
            x.merge(1, version);
        }
        Check.due("four bases", x.bases(12, 15), 4);
        Check.due("two of 6 and 8, two of 6 and 9, one of 6 and 7", x.bases(6, 8) * 100 + x.bases(6, 9) * 10 + x.bases(6, 7), 221);
        for (int node = LEFT; node <= OTHER; node++) {
            x.retag(0, node, 1);
        }
        x.write(1, OTHER, 0, 60);
        x.commit(0);
        x.commit(1);
        join(x, 0, 1);
        Check.due("changed by one alone: nothing is at odds", x.conflicts(-1), 0);
        for (int node = LEFT; node <= OTHER; node++) {
            Check.due("the tag of the one that changed it", x.tag(-1, node), 1);
        }
    }

    /** Histories can cross in each version that there is. */
    private static void crossingUpToTheLastVersion() {
        Threewayleaf x = ready();
        x.retag(0, NOTE, 7);
        x.retag(1, NOTE, 8);
        x.commit(0);
        x.commit(1);
        for (int version = 4; version < 38; version += 2) {
            Check.due("the one way", x.merge(0, version - 1), version);
            Check.due("the other way", x.merge(1, version - 2), version + 1);
            Check.due("the same", x.edits(version, version + 1), 0);
            Check.due("two bases then", x.bases(version, version + 1), 2);
        }
        x.settle(0, NOTE, TAGGED, 1);
        x.strike(1, NOTE, 0);
        joinTheLastTwo(x);
        Check.due("40 versions", x.versions(), 40);
    }

    private static void joinTheLastTwo(Threewayleaf x) {
        x.commit(0);
        x.commit(1);
        Check.due("from both sides", x.joined(38, 39), x.joined(39, 38));
        Check.due("by script", x.joinedByScript(38, 39), x.joined(39, 38));
        long note = Check.printOf(2, 8, 0, 0, 0, 0, 0, 0);
        long left = Check.printOf(0, 1, 0, note, Check.printOf(3, 4, 0, 0, 0, 0, 0, 0), 0, 0, 0, 0, 0);
        long right = Check.printOf(0, 2, 0, Check.printOf(2, 5, 0, 0, 0, 0, 0, 0), 0, 0, 0, 0, 0);
        Check.due("what both did", x.joined(38, 39), Check.printOf(0, 0, 0, left, right, 0, 0, 0, 0, 0));
    }

    /** Pick and revert join over the first parent and over the version, whatever the last common ones are. */
    private static void pickAndRevertHaveTheirOwnBase() {
        Threewayleaf x = ready();
        x.retag(0, NOTE, 7);
        x.commit(0);
        x.retag(0, NOTE, 8);
        x.commit(0);
        x.retag(1, NOTE, 9);
        x.commit(1);
        x.pick(1, 3);
        Check.due("7 to 8, picked on 9", x.option(-2, NOTE, TAGGED, 0) * 10 + x.option(-2, NOTE, TAGGED, 1), 89);
        x.revert(1, 3);
        Check.due("8 to 7, taken back on 8", x.tag(-2, NOTE), 7);
        Check.due("the conflict is as it was", x.conflicts(-2), 1);
    }

    public static void main(String[] args) {
        threeTags();
        threeAims();
        threeSpots();
        spotsAtOddsTakeTheLesserNumber();
        notThereInTheBase();
        conflictsOfANodeThatIsNotThereInTheBase();
        conflictsAreTakenFromTheThree();
        eachKindCanBeSettledByOneSide();
        bothSettledItInTheirWay();
        aNewConflictTakesThePlaceOfTheOldOne();
        otherKindsStay();
        conflictsAtOdds();
        conflictsAtOddsWithNone();
        wordsOfThree();
        whatOneAlonePut();
        whatOneAlonePutWithItsConflicts();
        whatIsNotTouchedIsRemoved();
        whatTouchesANode();
        aConflictAloneTouchesANode();
        goneComesToTheConflictsThatItHas();
        goneCanBeGoneAgain();
        aNewChildTouchesItsHolder();
        aChildInAnotherSpotTouchesItsHolder();
        whatDoesNotTouchANode();
        aChildInTheSameSpotDoesNotTouchItsHolder();
        bothRemovedIt();
        aRingOfTwo();
        aRingThroughANewNode();
        aRingThroughWhatIsGone();
        aRingOfNodesThatAreNotThereInTheBase();
        twoRingsAtOnce();
        holdersComeBackUpToTheFirstThatIsThere();
        holdersComeBackWithTheirConflicts();
        holdersComeBackFromTheBase();
        whatIsCommon();
        howManyLastOnes();
        basesOfBases();
        threeBases();
        fourBases();
        crossingUpToTheLastVersion();
        pickAndRevertHaveTheirOwnBase();
        Check.end("joining, at its bounds");
    }
}
