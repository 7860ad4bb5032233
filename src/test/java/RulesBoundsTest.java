/**
 * The rules 1 to 5: of each what it just allows and what it forbids, by each call that a rule can
 * refuse: put, remove, move, retag, settle, merge, pick, revert; and what against() and joined() tell.
 */
public final class RulesBoundsTest {
    private static final int NONE = Threewayleaf.NONE;
    private static final int LIST = Threewayleaf.LIST, SET = Threewayleaf.SET, LEAF = Threewayleaf.LEAF, LINK = Threewayleaf.LINK;
    private static final int MOVED = Threewayleaf.MOVED, TAGGED = Threewayleaf.TAGGED, AIMED = Threewayleaf.AIMED, GONE = Threewayleaf.GONE;

    /** Puts so many LISTs, each into the one before, the first one into a node; the last one is answered. */
    private static int chain(Threewayleaf x, int branch, int top, int length) {
        int deep = top;
        for (int i = 0; i < length; i++) {
            deep = x.put(branch, deep, 0, LIST, 1);
        }
        return deep;
    }

    private static void fill(Threewayleaf x, int branch, int holder, int count) {
        for (int i = 0; i < count; i++) {
            x.put(branch, holder, 0, LEAF, i);
        }
    }

    // ---- rule 1: "if two children of a SET have the same tag"

    /** The SETs 1 and 2 below the root, the LEAVES 3 and 4, tagged 3 and 4, in 1; two branches of the version 1. */
    private static Threewayleaf sets() {
        Threewayleaf x = new Threewayleaf();
        x.put(0, 0, 0, SET, 1);
        x.put(0, 0, 1, SET, 2);
        x.put(0, 1, 0, LEAF, 3);
        x.put(0, 1, 1, LEAF, 4);
        x.commit(0);
        x.fork(1);
        return x;
    }

    private static void rule1ByEdits() {
        Threewayleaf x = sets();
        Check.refused("put", x, Check.STATE, () -> x.put(0, 1, 0, LEAF, 3));
        Check.refused("put of another kind", x, Check.STATE, () -> x.put(0, 1, 2, SET, 4));
        Check.refused("retag", x, Check.STATE, () -> x.retag(0, 3, 4));
        Check.due("its own tag", x.retag(0, 3, 3), 3);
        Check.due("in another SET", x.put(0, 2, 0, LEAF, 3), 5);
        Check.refused("move", x, Check.STATE, () -> x.move(0, 5, 1, 0));
        x.move(0, 3, 1, 1);
        Check.due("moved in its own SET", Check.childrenOf(x, -1, 1), "3,4,");
        x.retag(0, 5, 2);
        x.move(0, 5, 1, 0);
        Check.due("three tags", Check.childrenOf(x, -1, 1), "3,4,5,");
        x.remove(0, 3);
        Check.due("the tag of what is removed", x.retag(0, 5, 3), 2);
        Check.due("the tag 0", x.put(0, 1, 0, LEAF, 0), 6);
        Check.refused("the tag 0 twice", x, Check.STATE, () -> x.put(0, 1, 0, LEAF, 0));
        Check.due("the tag 9", x.put(0, 1, 0, LEAF, 9), 7);
        Check.refused("the tag 9 twice", x, Check.STATE, () -> x.put(0, 1, 0, LEAF, 9));
        Check.due("the tag of the SET itself", x.put(0, 1, 0, LEAF, 1), 8);
        Check.due("in a LIST", x.put(0, 0, 0, LEAF, 1), 9);
        Check.due("in a LIST, retagged", x.retag(0, 9, 2), 1);
    }

    private static void rule1BySettling() {
        Threewayleaf x = sets();
        x.retag(0, 3, 8);
        x.retag(1, 3, 6);
        x.move(0, 4, 0, 0);
        x.move(1, 4, 2, 0);
        x.commit(0);
        x.commit(1);
        x.merge(0, 3);
        x.put(0, 1, 0, LEAF, 8);
        x.put(0, 2, 0, LEAF, 4);
        Check.refused("the tag is taken", x, Check.STATE, () -> x.settle(0, 3, TAGGED, 1));
        Check.refused("the tag is taken where the spot is", x, Check.STATE, () -> x.settle(0, 4, MOVED, 1));
        x.retag(0, 5, 7);
        x.settle(0, 3, TAGGED, 1);
        Check.due("the tag is free", x.tag(-1, 3), 8);
        x.remove(0, 6);
        x.settle(0, 4, MOVED, 1);
        Check.due("the spot is free", Check.childrenOf(x, -1, 2), "4,");
    }

    private static void rule1ByJoining() {
        Threewayleaf x = sets();
        x.put(0, 2, 0, LEAF, 5);
        x.put(1, 2, 0, LEAF, 5);
        x.commit(0);
        x.commit(1);
        refusedByRule(x, 1, false);
        x.remove(1, 6);
        x.put(1, 2, 0, LEAF, 6);
        x.commit(1);
        Check.due("two tags", x.against(2, 4), 0);
        Check.due("they are joined", x.merge(0, 4), 5);
        Check.due("both are there", Check.childrenOf(x, 5, 2), "5,7,");
    }

    private static void rule1ByTakingBack() {
        Threewayleaf x = sets();
        x.remove(0, 3);
        x.commit(0);
        x.put(0, 1, 0, LEAF, 3);
        x.commit(0);
        Check.refused("what was removed can't come back", x, Check.STATE, () -> x.revert(0, 2));
        x.retag(0, 5, 5);
        x.commit(0);
        Check.due("but now", x.revert(0, 2), 5);
        Check.due("it is back", Check.childrenOf(x, 5, 1), "3,4,5,");
    }

    /** The version 2, of the branch 0, and the version 3, of the branch 1, break a rule if they are joined. */
    private static void refusedByRule(Threewayleaf x, int rule, boolean isAdrift) {
        Check.due("against", x.against(2, 3), rule);
        Check.due("against, from the other side", x.against(3, 2), rule);
        Check.refused("merge", x, Check.STATE, () -> x.merge(0, 3));
        Check.refused("merge, from the other side", x, Check.STATE, () -> x.merge(1, 2));
        Check.refused("pick", x, Check.STATE, () -> x.pick(0, 3));
        Check.refused("pick, from the other side", x, Check.STATE, () -> x.pick(1, 2));
        Check.due("0 by the rule 5 alone", x.joined(2, 3) == 0, isAdrift);
        Check.due("from the other side", x.joined(3, 2), x.joined(2, 3));
        Check.due("by script", x.joinedByScript(2, 3), x.joined(2, 3));
        Check.due("by script, from the other side", x.joinedByScript(3, 2), x.joined(2, 3));
    }

    // ---- rule 2: "if a LINK that is there aims at a node that is not there"

    /** 1 (a LIST) with the LEAF 2, and the LINKs 3 and 4 below the root; two branches of the version 1. */
    private static Threewayleaf links() {
        Threewayleaf x = new Threewayleaf();
        x.put(0, 0, 0, LIST, 1);
        x.put(0, 1, 0, LEAF, 2);
        x.put(0, 0, 1, LINK, 3);
        x.put(0, 0, 2, LINK, 4);
        x.commit(0);
        x.fork(1);
        return x;
    }

    private static void rule2ByEdits() {
        Threewayleaf x = links();
        x.aim(0, 3, 2);
        Check.refused("what is aimed at", x, Check.STATE, () -> x.remove(0, 2));
        Check.refused("what has it below", x, Check.STATE, () -> x.remove(0, 1));
        x.aim(0, 4, 3);
        Check.refused("a LINK that another one aims at", x, Check.STATE, () -> x.remove(0, 3));
        x.aim(0, 4, 4);
        Check.due("a LINK that aims at itself", x.remove(0, 4), 1);
        x.move(0, 3, 1, 0);
        Check.due("a LINK that goes with its aim", x.remove(0, 1), 3);
        x.reset(0);
        x.aim(0, 3, 0);
        x.aim(0, 4, NONE);
        Check.due("nothing aims at it", x.remove(0, 1), 2);
        Check.due("at the root", x.aimOf(-1, 3), 0);
    }

    private static void rule2BySettling() {
        Threewayleaf x = links();
        x.aim(0, 3, 1);
        x.aim(1, 3, 2);
        x.remove(0, 4);
        x.retag(1, 4, 5);
        x.commit(0);
        x.commit(1);
        x.merge(0, 3);
        x.remove(0, 2);
        Check.refused("the aim is not there", x, Check.STATE, () -> x.settle(0, 3, AIMED, 1));
        x.aim(0, 3, 4);
        Check.refused("what is aimed at can't be gone", x, Check.STATE, () -> x.settle(0, 4, GONE, 0));
        x.settle(0, 3, AIMED, 0);
        Check.due("the lesser aim is there", x.aimOf(-1, 3), 1);
        x.settle(0, 4, GONE, 0);
        Check.due("it is gone", x.isThere(-1, 4), false);
        Check.due("all is settled", x.conflicts(-1), 0);
    }

    private static void rule2ByJoining() {
        Threewayleaf x = links();
        x.aim(0, 3, 2);
        x.remove(1, 2);
        x.commit(0);
        x.commit(1);
        refusedByRule(x, 2, false);
        x.write(0, 2, 0, 1);
        x.commit(0);
        Check.due("what is touched stays", x.against(4, 3), 0);
        Check.due("they are joined", x.merge(1, 4), 5);
    }

    private static void rule2OfTheRootAndTheLastNode() {
        Threewayleaf x = links();
        for (int node = 5; node <= 39; node++) {
            x.put(0, 1, 0, LEAF, 1);
            if (node < 39) {
                x.remove(0, node);
            }
        }
        x.commit(0);
        x.merge(1, 2);
        x.aim(0, 3, 39);
        x.aim(1, 3, 0);
        x.commit(0);
        x.remove(1, 39);
        x.commit(1);
        Check.due("of aims at odds the lesser one, the root, is there", x.against(3, 4), 0);
        x.aim(1, 3, NONE);
        x.commit(1);
        Check.due("the aim of the one alone, the last node, is not", x.against(3, 5), 2);
    }

    // ---- rule 3: "if a node has more than 8 children"

    private static void rule3ByEdits() {
        Threewayleaf x = new Threewayleaf();
        x.put(0, 0, 0, LIST, 0);
        x.put(0, 0, 1, SET, 1);
        x.put(0, 0, 2, LEAF, 9);
        fill(x, 0, 1, 7);
        fill(x, 0, 2, 7);
        for (int holder = 1; holder <= 2; holder++) {
            int of = holder;
            Check.due("the eighth one", x.put(0, of, 0, LEAF, 7), 17 + of);
            Check.refused("a ninth one: put", x, Check.STATE, () -> x.put(0, of, 0, LEAF, 8));
            Check.refused("a ninth one: move", x, Check.STATE, () -> x.move(0, 3, of, 0));
            x.move(0, 17 + of, of, 7);
            Check.due("moved among the eight", x.children(-1, of), 8);
            x.remove(0, 17 + of);
            x.move(0, 3, of, 0);
            Check.due("eight by moving", x.children(-1, of), 8);
        }
        fill(x, 0, 0, 6);
        Check.refused("a ninth one below the root", x, Check.STATE, () -> x.put(0, 0, 0, LEAF, 8));
        Check.refused("a ninth one below the root: move", x, Check.STATE, () -> x.move(0, 3, 0, 0));
    }

    private static void rule3BySettling() {
        Threewayleaf x = new Threewayleaf();
        x.put(0, 0, 0, LIST, 1);
        x.put(0, 0, 1, LEAF, 2);
        x.commit(0);
        x.fork(1);
        x.move(0, 2, 0, 0);
        x.move(1, 2, 1, 0);
        x.commit(0);
        x.commit(1);
        x.merge(0, 3);
        fill(x, 0, 1, 8);
        Check.refused("a ninth one", x, Check.STATE, () -> x.settle(0, 2, MOVED, 1));
        x.remove(0, 3);
        x.settle(0, 2, MOVED, 1);
        Check.due("the eighth one", x.children(-1, 1), 8);
        Check.refused("settled", x, Check.ELEMENT, () -> x.settle(0, 2, MOVED, 1));
    }

    private static void rule3ByJoining() {
        Threewayleaf x = new Threewayleaf();
        x.put(0, 0, 0, SET, 1);
        x.commit(0);
        x.fork(1);
        fill(x, 0, 1, 5);
        for (int tag = 5; tag < 9; tag++) {
            x.put(1, 1, 0, LEAF, tag);
        }
        x.commit(0);
        x.commit(1);
        refusedByRule(x, 3, false);
        x.remove(0, 2);
        x.commit(0);
        Check.due("eight", x.against(4, 3), 0);
        Check.due("they are joined", x.merge(0, 3), 5);
        Check.due("eight children", x.children(5, 1), 8);
        Check.refused("the ninth one can't come back", x, Check.STATE, () -> x.revert(0, 4));
        x.remove(0, 3);
        x.commit(0);
        Check.due("but now", x.revert(0, 4), 7);
        Check.due("eight again", x.children(7, 1), 8);
    }

    // ---- rule 4: "if the depth of a node that is below the root is above 8"

    private static void rule4ByEdits() {
        Threewayleaf x = new Threewayleaf();
        int seventh = chain(x, 0, 0, 7);
        int eighth = x.put(0, seventh, 0, LIST, 1);
        Check.refused("put", x, Check.STATE, () -> x.put(0, eighth, 0, LEAF, 1));
        int list = x.put(0, 0, 0, LIST, 1);
        Check.refused("move", x, Check.STATE, () -> x.move(0, list, eighth, 0));
        x.move(0, list, seventh, 0);
        Check.due("at the depth 8", x.holder(-1, list), seventh);
        x.move(0, list, 0, 0);
        int leaf = x.put(0, list, 0, LEAF, 1);
        Check.refused("what is below counts", x, Check.STATE, () -> x.move(0, list, seventh, 0));
        x.remove(0, leaf);
        x.move(0, list, seventh, 0);
        Check.due("nothing is below", Check.childrenOf(x, -1, seventh), "9,8,");
    }

    private static void rule4BySettling() {
        Threewayleaf x = new Threewayleaf();
        int seventh = chain(x, 0, 0, 7);
        int list = x.put(0, 0, 1, LIST, 2);
        x.commit(0);
        x.fork(1);
        x.move(0, list, 0, 0);
        x.move(1, list, seventh, 0);
        x.commit(0);
        x.commit(1);
        x.merge(0, 3);
        int leaf = x.put(0, list, 0, LEAF, 1);
        Check.refused("the LEAF would be too deep", x, Check.STATE, () -> x.settle(0, list, MOVED, 1));
        x.remove(0, leaf);
        x.settle(0, list, MOVED, 1);
        Check.due("at the depth 8", x.holder(-1, list), seventh);
    }

    private static void rule4ByJoining() {
        Threewayleaf x = new Threewayleaf();
        int fourth = chain(x, 0, 0, 4);
        int other = x.put(0, 0, 1, LIST, 2);
        x.commit(0);
        x.fork(1);
        int deep = chain(x, 0, fourth, 4);
        int more = chain(x, 1, other, 1);
        x.move(1, 2, other, 1);
        x.commit(0);
        x.commit(1);
        Check.due("eight deep, one below the other one: 2 is at 2 as before", x.against(2, 3), 0);
        x.move(1, 2, more, 0);
        x.commit(1);
        Check.due("2 is at 3: nine deep", x.against(2, 4), 4);
        Check.refused("merge", x, Check.STATE, () -> x.merge(0, 4));
        Check.due("a print all the same", x.joined(2, 4) == 0, false);
        Check.due("by script", x.joinedByScript(4, 2), x.joined(2, 4));
        x.remove(0, deep);
        x.commit(0);
        Check.due("eight deep", x.merge(0, 4), 6);
        Check.due("at the depth 8", x.holder(6, deep - 1), deep - 2);
        Check.refused("the ninth one can't come back", x, Check.STATE, () -> x.revert(0, 5));
    }

    // ---- rule 5: "if a node that is there is not below the root, but for the root itself"

    private static void rule5BySettling() {
        Threewayleaf x = new Threewayleaf();
        x.put(0, 0, 0, LIST, 1);
        x.put(0, 0, 1, LIST, 2);
        x.commit(0);
        x.fork(1);
        x.move(0, 1, 0, 0);
        x.move(1, 1, 2, 0);
        x.commit(0);
        x.commit(1);
        x.merge(0, 3);
        x.move(0, 2, 1, 0);
        Check.refused("the spot is below the node itself", x, Check.STATE, () -> x.settle(0, 1, MOVED, 1));
        x.move(0, 2, 0, 0);
        x.settle(0, 1, MOVED, 1);
        Check.due("not any more", x.holder(-1, 1), 2);
    }

    /**
     * The version 1 has 1 with 2 in it, and 3, below the root; the branch 0 has 1 in 2 in 3, the
     * branch 1 has 3 in 2: 2 and 3 go round and get their spots of the base, but then 1 and 2 do.
     */
    private static Threewayleaf adrift() {
        Threewayleaf x = new Threewayleaf();
        x.put(0, 0, 0, LIST, 1);
        x.put(0, 1, 0, LIST, 2);
        x.put(0, 0, 1, LIST, 3);
        x.put(0, 0, 2, SET, 4);
        x.commit(0);
        x.fork(1);
        x.move(0, 2, 3, 0);
        x.move(0, 1, 2, 0);
        x.move(1, 3, 2, 0);
        return x;
    }

    private static void rule5ByJoining() {
        Threewayleaf x = adrift();
        x.commit(0);
        x.commit(1);
        refusedByRule(x, 5, true);
        x.move(0, 1, 0, 0);
        x.commit(0);
        Check.due("1 is below the root", x.against(4, 3), 0);
        Check.due("they are joined", x.merge(0, 3), 5);
        Check.due("2 as in the base", x.holder(5, 2), 1);
        Check.due("3 as in the base", x.holder(5, 3), 0);
    }

    private static void rule5ByTakingBack() {
        Threewayleaf x = new Threewayleaf();
        x.put(0, 0, 0, LIST, 1);
        x.put(0, 1, 0, LIST, 2);
        x.put(0, 2, 0, LIST, 3);
        x.commit(0);
        x.move(0, 3, 0, 1);
        x.commit(0);
        x.move(0, 2, 3, 0);
        x.move(0, 1, 2, 0);
        x.commit(0);
        Check.refused("revert", x, Check.STATE, () -> x.revert(0, 2));
        x.move(0, 1, 0, 0);
        x.commit(0);
        Check.due("1 is below the root", x.revert(0, 2), 5);
    }

    // ---- which rule is told

    /** "Returns the lowest rule that would be broken"; "Returns 1 to 5; 0 if none would be." */
    private static void theLowestOfSeveral() {
        Threewayleaf x = adrift();
        x.put(0, 4, 0, LEAF, 5);
        x.put(1, 4, 0, LEAF, 5);
        x.commit(0);
        x.commit(1);
        refusedByRule(x, 1, true);

        Threewayleaf y = adrift();
        int link = y.put(0, 0, 0, LINK, 5);
        y.aim(0, link, 4);
        y.remove(1, 4);
        y.commit(0);
        y.commit(1);
        refusedByRule(y, 2, true);

        Threewayleaf z = adrift();
        fill(z, 0, 4, 5);
        for (int tag = 5; tag < 9; tag++) {
            z.put(1, 4, 0, LEAF, tag);
        }
        z.commit(0);
        z.commit(1);
        refusedByRule(z, 3, true);
    }

    private static void theLowestOfTheOthers() {
        Threewayleaf x = new Threewayleaf();
        int third = chain(x, 0, 0, 3);
        int other = x.put(0, 0, 1, LIST, 2);
        x.put(0, 0, 2, LEAF, 3);
        x.commit(0);
        x.fork(1);
        int sixth = chain(x, 0, third, 5);
        x.move(1, 1, other, 0);
        x.commit(0);
        x.commit(1);
        refusedByRule(x, 4, false);
        int link = x.put(0, 0, 0, LINK, 1);
        x.aim(0, link, 5);
        x.commit(0);
        x.remove(1, 5);
        x.commit(1);
        Check.due("2 of 2 and 4", x.against(4, 5), 2);
        x.aim(0, link, NONE);
        x.commit(0);
        Check.due("4 again", x.against(6, 5), 4);
        fill(x, 0, other, 4);
        x.commit(0);
        fill(x, 1, other, 4);
        x.commit(1);
        Check.due("3 of 3 and 4: nine children", x.against(7, 8), 3);
        x.remove(0, sixth);
        x.commit(0);
        Check.due("3 alone", x.against(9, 8), 3);
        x.remove(1, x.child(-2, other, 0));
        x.commit(1);
        Check.due("none", x.against(9, 10), 0);
    }

    public static void main(String[] args) {
        rule1ByEdits();
        rule1BySettling();
        rule1ByJoining();
        rule1ByTakingBack();
        rule2ByEdits();
        rule2BySettling();
        rule2ByJoining();
        rule2OfTheRootAndTheLastNode();
        rule3ByEdits();
        rule3BySettling();
        rule3ByJoining();
        rule4ByEdits();
        rule4BySettling();
        rule4ByJoining();
        rule5BySettling();
        rule5ByJoining();
        rule5ByTakingBack();
        theLowestOfSeveral();
        theLowestOfTheOthers();
        Check.end("rules, at their bounds");
    }
}
