/** The lines that README.md shows, and what it says of them. */
public final class ReadmeTest {
    private ReadmeTest() {
    }

    public static void main(String[] args) {
        Threewayleaf x = new Threewayleaf();
        int list = x.put(0, 0, 0, Threewayleaf.LIST, 1);
        int leaf = x.put(0, list, 0, Threewayleaf.LEAF, 2);
        x.write(0, leaf, 0, 42);
        int base = x.commit(0);
        int side = x.fork(base);
        x.retag(0, leaf, 5);
        Check.due("the version 2", x.commit(0), 2);
        x.retag(side, leaf, 7);
        x.move(side, leaf, 0, 1);
        int other = x.commit(side);
        int both = x.merge(0, other);
        int lesser = x.option(both, leaf, Threewayleaf.TAGGED, 0);
        Check.due("the versions 1, 3, 4 and the branch 1", base * 1000 + other * 100 + both * 10 + side, 1341);
        Check.due("moved", x.holder(both, leaf), 0);
        Check.due("both tags", lesser * 10 + x.option(both, leaf, Threewayleaf.TAGGED, 1), 57);
        Check.due("one conflict", x.conflicts(both), 1);
        x.settle(0, leaf, Threewayleaf.TAGGED, 1);
        Check.due("the other one", x.tag(-1, leaf), 7);
        int settled = x.commit(0);
        Check.due("the version 5", settled, 5);
        x.revert(0, settled);
        Check.due("the conflict is there again", x.edits(-1, both), 0);
        x.pick(side, settled);
        Check.due("the branch 1 had the tag already, and no conflict", x.edits(-2, other), 0);
        long print = x.print(-1);
        Check.due("a version or a desk", print, x.print(both));
        Check.end("README.md");
    }
}
