/** Promises 36 to 39: scripts and likeness. */
public final class ScriptPromisesTest {
    private static final int NONE = Threewayleaf.NONE;
    private static final int LIST = Threewayleaf.LIST, SET = Threewayleaf.SET, LEAF = Threewayleaf.LEAF, LINK = Threewayleaf.LINK;
    private static final int TAGGED = Threewayleaf.TAGGED;

    /** The version 1 has 1 and 2 (LISTs) below the root, 3 (a LEAF saying the words 0 and 1) and 4 (a LINK) in 1; two branches. */
    private static Threewayleaf twoBranches() {
        Threewayleaf x = new Threewayleaf();
        x.put(0, 0, 0, LIST, 1);
        x.put(0, 0, 1, LIST, 2);
        x.put(0, 1, 0, LEAF, 3);
        x.put(0, 1, 1, LINK, 4);
        x.write(0, 3, 0, 50);
        x.write(0, 3, 1, 51);
        x.commit(0);
        x.fork(1);
        return x;
    }

    private static void promises36And37Scripts() {
        Threewayleaf x = twoBranches();
        Check.due("nothing to do", x.edits(1, -2), 0);
        Check.due("from nothing", Check.scriptOf(x, 0, 1), "+1;+2;+3;+4;!0;!1;");
        Check.due("to nothing", Check.scriptOf(x, 1, 0), "~0;~1;-1;-2;-3;-4;");
        x.retag(0, 0, 5);
        x.move(0, 3, 2, 0);
        x.retag(0, 3, 7);
        x.aim(0, 4, 3);
        x.strike(0, 3, 0);
        x.write(0, 3, 0, 60);
        x.put(0, 0, 0, SET, 1);
        x.move(0, 4, 5, 0);
        x.remove(0, 1);
        Check.due("all kinds in their order", Check.scriptOf(x, 1, -1), "+5;*3;*4;#0;#3;@4;!2;~0;-1;");
        Check.due("back", Check.scriptOf(x, -1, 1), "+1;*3;*4;#0;#3;@4;!0;~2;-5;");
        Check.due("edits", x.edits(1, -1), 9);
        Check.due("edits back", x.edits(-1, 1), 9);
        Check.fails("no version", Check.INDEX, () -> x.edits(2, 0));
        Check.fails("no other", Check.INDEX, () -> x.edits(0, 2));
        Check.fails("no desk", Check.INDEX, () -> x.edits(-3, 0));
        Check.fails("no other desk", Check.INDEX, () -> x.edits(0, -3));
        Check.fails("no version", Check.INDEX, () -> x.scriptAt(2, 0, -1));
        Check.fails("no other", Check.INDEX, () -> x.scriptAt(0, 2, 99));
        Check.due("first char", x.scriptAt(1, -1, 0), '+');
        Check.due("last char", x.scriptAt(1, -1, 26), ';');
        Check.fails("no such char", Check.ELEMENT, () -> x.scriptAt(1, -1, 27));
        Check.fails("by far no such char", Check.ELEMENT, () -> x.scriptAt(1, -1, Integer.MAX_VALUE));
        Check.fails("below 0", Check.ELEMENT, () -> x.scriptAt(1, -1, -1));
        Check.fails("no char of nothing", Check.ELEMENT, () -> x.scriptAt(1, 1, 0));
    }

    private static void conflictsInScripts() {
        Threewayleaf x = twoBranches();
        x.retag(0, 3, 7);
        x.retag(1, 3, 8);
        x.retag(0, 1, 7);
        x.retag(1, 1, 8);
        x.commit(0);
        x.commit(1);
        x.merge(0, 3);
        Check.due("conflicts come with tags", Check.scriptOf(x, 3, 4), "#1;#3;?1;?3;");
        Check.due("conflicts alone", Check.scriptOf(x, 2, 4), "?1;?3;");
        Check.due("what is added has no edit for its conflicts", Check.scriptOf(x, 0, 4), "+1;+2;+3;+4;!0;!1;");
        x.settle(0, 1, TAGGED, 0);
        Check.due("settled", Check.scriptOf(x, 4, -1), "?1;");
    }

    private static void numbersOfMoreDigits() {
        Threewayleaf x = new Threewayleaf();
        x.put(0, 0, 0, LEAF, 1);
        for (int i = 0; i < 120; i++) {
            x.write(0, 1, 0, 1);
        }
        StringBuilder want = new StringBuilder("+1;");
        for (int i = 0; i < 120; i++) {
            want.append('!').append(i).append(';');
        }
        Check.due("words up to 119", Check.scriptOf(x, 0, -1), want.toString());
        Check.due("edits", x.edits(0, -1), 121);
        for (int i = 0; i < 12; i++) {
            x.put(0, 0, 0, LEAF, 1);
            x.remove(0, i + 2);
        }
        x.put(0, 0, 0, LEAF, 1);
        x.strike(0, 1, 0);
        Check.due("nodes of two digits", Check.scriptOf(x, 0, -1).substring(0, 7), "+1;+14;");
    }

    /** Two documents that were put apart from each other: 1 to 5 in the branch 0, 6 to 10 in the branch 1. */
    private static Threewayleaf apart() {
        Threewayleaf x = new Threewayleaf();
        x.fork(0);
        for (int branch = 0; branch < 2; branch++) {
            int list = x.put(branch, 0, 0, LIST, 1);
            int leaf = x.put(branch, list, 0, LEAF, 2);
            x.write(branch, leaf, 0, 30);
            x.put(branch, list, 1, LINK, 3);
            int other = x.put(branch, 0, 1, LIST, 1);
            x.put(branch, other, 0, LEAF, 2);
        }
        return x;
    }

    private static void promise38ByFace() {
        Threewayleaf x = apart();
        for (int node = 1; node <= 5; node++) {
            Check.due("the same apart", x.match(-1, node, -2), node + 5);
            Check.due("the same back", x.match(-2, node + 5, -1), node);
        }
        Check.due("the roots", x.match(-1, 0, -2), 0);
        Check.due("the roots of others", x.match(-1, 0, 0), 0);
        Check.due("none", x.match(-1, 1, 0), NONE);
        Check.due("all", x.likeness(-1, -2), 6);
        x.aim(1, 8, 7);
        Check.due("aims are not looked at", x.match(-1, 3, -2), 8);
        x.move(1, 7, 9, 1);
        Check.due("wherever it is", x.match(-1, 2, -2), 7);
        Check.due("its holder is matched in turn", x.match(-1, 1, -2), 6);
        Check.due("so is the other one", x.match(-1, 4, -2), 9);
        x.move(1, 8, 9, 0);
        Check.due("aims are not looked at, wherever it is", x.match(-1, 3, -2), 8);
        Check.fails("no view", Check.INDEX, () -> x.match(1, 0, 0));
        Check.fails("no other", Check.INDEX, () -> x.match(0, 0, 1));
        Check.fails("no desk", Check.INDEX, () -> x.match(-3, 0, 0));
        Check.fails("not there", Check.INDEX, () -> x.match(-1, 7, -2));
        Check.fails("no node", Check.INDEX, () -> x.match(-1, 11, -2));
        Check.fails("node below 0", Check.INDEX, () -> x.match(-1, -1, -2));
    }

    private static void promise38InTurn() {
        Threewayleaf x = apart();
        x.put(1, 0, 0, LIST, 1);
        x.put(1, 11, 0, LEAF, 2);
        // The empty leaves 10 and 12, in their lists, have one face, so it tells nothing.
        Check.due("by face", x.match(-1, 1, -2), 6);
        Check.due("the first list of this tag that is not matched by face", x.match(-1, 4, -2), 11);
        Check.due("what is below is matched in turn", x.match(-1, 5, -2), 12);
        Check.due("the second one of two, back", x.match(-2, 9, -1), NONE);
        Check.due("what is below one without a match", x.match(-2, 10, -1), NONE);
        Check.due("likeness", x.likeness(-1, -2), 6);
        Check.due("likeness back", x.likeness(-2, -1), 6);
        x.retag(1, 11, 9);
        x.retag(1, 9, 9);
        Check.due("another tag", x.match(-1, 4, -2), NONE);
        Check.due("so what is below has none", x.match(-1, 5, -2), NONE);
        Check.due("four are left", x.likeness(-1, -2), 4);
    }

    /** Children that are matched by face are not counted among those that are matched in turn. */
    private static void promise38FacesLeftOut() {
        Threewayleaf x = new Threewayleaf();
        x.fork(0);
        int[] senses = {1, 2, 3};
        for (int i = 0; i < 3; i++) {
            x.put(0, 0, i, LEAF, 5);
            x.write(0, 1 + i, 0, senses[i]);
        }
        x.put(1, 0, 0, LEAF, 5);
        x.write(1, 4, 0, 9);
        x.put(1, 0, 1, LEAF, 5);
        x.write(1, 5, 0, 1);
        x.put(1, 0, 0, LINK, 5);
        Check.due("by face, though it is the second one", x.match(-1, 1, -2), 5);
        Check.due("the first one that is left", x.match(-1, 2, -2), 4);
        Check.due("none is left for it", x.match(-1, 3, -2), NONE);
        Check.due("back", x.match(-2, 4, -1), 2);
        Check.due("a LINK is no LEAF", x.match(-2, 6, -1), NONE);
        Check.due("likeness", x.likeness(-1, -2), 3);
    }

    private static void promise38ConflictsLeftOut() {
        Threewayleaf x = twoBranches();
        x.write(0, 3, 0, 60);
        x.remove(1, 3);
        x.commit(0);
        x.commit(1);
        x.merge(0, 3);
        Check.due("a conflict", x.conflicts(-1), 1);
        Check.due("conflicts are not looked at", x.match(-1, 3, 2), 3);
        Check.due("nor those below", x.match(-1, 1, 2), 1);
        x.fork(2);
        x.move(2, 3, 2, 0);
        Check.due("nor wherever it is", x.match(-1, 3, -3), 3);
        x.move(2, 1, 2, 0);
        x.move(2, 3, 1, 0);
        Check.due("nor those below, wherever it is", x.match(-1, 1, -3), 1);
    }

    private static void promise39Likeness() {
        Threewayleaf x = twoBranches();
        Check.due("the root alone", x.likeness(1, 0), 1);
        Check.due("the root alone, back", x.likeness(0, 1), 1);
        Check.due("with itself", x.likeness(1, 1), 5);
        x.put(1, 2, 0, LEAF, 3);
        Check.due("one that is new", x.likeness(-2, 1), 5);
        Check.due("all of the first one", x.likeness(1, -2), 5);
        Check.fails("no view", Check.INDEX, () -> x.likeness(2, 0));
        Check.fails("no other", Check.INDEX, () -> x.likeness(0, 2));
        Check.fails("no desk", Check.INDEX, () -> x.likeness(-3, 0));
        Check.fails("no other desk", Check.INDEX, () -> x.likeness(0, -3));
    }

    public static void main(String[] args) {
        promises36And37Scripts();
        conflictsInScripts();
        numbersOfMoreDigits();
        promise38ByFace();
        promise38InTurn();
        promise38FacesLeftOut();
        promise38ConflictsLeftOut();
        promise39Likeness();
        Check.end("promises 36 to 39");
    }
}
