/** Promises 14 and 16 to 18: revisions, content, dead, kept. */
public final class RevisionTest {
    private static final int NONE = RevisionStore.NONE;
    private static final int[] NO_FILES = {-1, 4, Integer.MIN_VALUE, Integer.MAX_VALUE};
    private static final int[] NO_REVISIONS = {-1, 1, 24, Integer.MIN_VALUE, Integer.MAX_VALUE};

    private static final Check CHECK = new Check();

    public static void main(String[] args) {
        counts();
        contents();
        deaths();
        keptOnTheTrunk();
        keptOnABranch();
        keptOnTheVendorBranch();
        sizes();
        wrongFilesAndRevisions();
        CHECK.end();
    }

    private static void counts() {
        RevisionStore x = new RevisionStore();
        CHECK.due("not there", x.revisions(0), 0);
        x.add(0, 0, 1);
        CHECK.due("added", x.revisions(0), 0);
        x.commit(0, 0);
        CHECK.due("committed", x.revisions(0), 1);
        x.remove(0, 0);
        x.commit(0, 0);
        CHECK.due("a dead one counts", x.revisions(0), 2);
        x.bring(0, 1);
        CHECK.due("brought", x.revisions(0), 3);
        CHECK.due("another file", x.revisions(3), 0);
    }

    private static void contents() {
        RevisionStore x = Check.storeWith(1, 2);
        x.edit(0, 0, Check.text(1, 3));
        CHECK.due("before the commit", x.content(0, 1), NONE);
        x.commit(0, 0);
        x.edit(0, 0, 0);
        x.commit(0, 0);
        CHECK.due("first", x.content(0, 0), Check.text(1, 2));
        CHECK.due("second", x.content(0, 1), Check.text(1, 3));
        CHECK.due("empty", x.content(0, 2), 0);
    }

    private static void deaths() {
        RevisionStore x = Check.storeWith(1);
        x.remove(0, 0);
        CHECK.no("removed but not committed", x.dead(0, 0));
        x.commit(0, 0);
        CHECK.no("the one before", x.dead(0, 0));
        CHECK.yes("the dead one", x.dead(0, 1));
        CHECK.no("none behind it", x.dead(0, 2));
        x.add(0, 0, 1);
        x.commit(0, 0);
        CHECK.yes("it stays dead", x.dead(0, 1));
        CHECK.no("the next one", x.dead(0, 2));
    }

    private static void keptOnTheTrunk() {
        RevisionStore x = Check.storeWith(1, 2, 3, 4);
        CHECK.due("head", x.kept(0, 0), 4);
        x.edit(0, 0, Check.text(1, 3, 4, 5, 6));
        x.commit(0, 0);
        CHECK.due("head", x.kept(0, 1), 5);
        CHECK.due("before the head", x.kept(0, 0), 3);
        x.edit(0, 0, 0);
        x.commit(0, 0);
        CHECK.due("empty head", x.kept(0, 2), 0);
        CHECK.due("before the empty head", x.kept(0, 1), 5);
        CHECK.due("first", x.kept(0, 0), 3);
        x.tag(0, 0, 0, true);
        x.update(0, 0, 0);
        x.edit(0, 0, 7);
        x.commit(0, 0);
        CHECK.due("still the head of the trunk", x.kept(0, 2), 0);
        x.update(0, 0, 5);
        x.edit(0, 0, Check.text(8, 8));
        x.commit(0, 0);
        CHECK.due("against the next on the trunk", x.kept(0, 2), 2);
        x.remove(0, 0);
        x.commit(0, 0);
        CHECK.due("dead head", x.kept(0, 5), 2);
        CHECK.due("before the dead head", x.kept(0, 4), 0);
    }

    private static void keptOnABranch() {
        RevisionStore x = Check.storeWith(1, 2, 3);
        x.tag(0, 0, 0, true);
        x.edit(0, 0, Check.text(9, 9, 9, 9));
        x.commit(0, 0);
        x.update(0, 0, 0);
        x.edit(0, 0, Check.text(1, 2, 4, 5));
        x.commit(0, 0);
        CHECK.due("first against the point", x.kept(0, 2), 3);
        x.edit(0, 0, Check.text(1, 5));
        x.commit(0, 0);
        CHECK.due("second against the first", x.kept(0, 3), 2);
        CHECK.due("first as before", x.kept(0, 2), 3);
        x.tag(0, 0, 1, true);
        x.update(0, 0, 1);
        x.edit(0, 0, Check.text(5, 1));
        x.commit(0, 0);
        CHECK.due("a branch of the branch", x.kept(0, 4), 2);
        CHECK.due("the trunk's first", x.kept(0, 0), 7);
        CHECK.due("the trunk's head", x.kept(0, 1), 4);
    }

    private static void keptOnTheVendorBranch() {
        RevisionStore x = new RevisionStore();
        x.bring(0, Check.text(1, 2, 3));
        CHECK.due("1.1", x.kept(0, 0), 3);
        CHECK.due("1.1.1.1", x.kept(0, 1), 0);
        x.bring(0, Check.text(1, 3, 4));
        CHECK.due("1.1.1.2", x.kept(0, 2), 2);
        CHECK.due("1.1 is still the trunk's head", x.kept(0, 0), 3);
    }

    private static void dueSize(long first, long second, int size) {
        RevisionStore x = new RevisionStore();
        x.bring(0, first);
        x.bring(0, second);
        CHECK.due("size of " + first + " and " + second, x.kept(0, 2), size);
        x.bring(0, first);
        CHECK.due("size of " + second + " and " + first, x.kept(0, 3), size);
    }

    private static void sizes() {
        dueSize(0, 0, 0);
        dueSize(0, Check.text(1, 1), 2);
        dueSize(Check.text(1, 2), Check.text(2, 1), 2);
        dueSize(Check.text(1, 2, 3), Check.text(4, 5), 5);
        dueSize(Check.text(1, 2, 3, 1, 2, 2, 1), Check.text(3, 2, 1, 2, 1, 3), 5);
        dueSize(Check.text(1, 2, 3, 4, 5, 6, 7, 8, 9, 10, 11, 12),
            Check.text(12, 11, 10, 9, 8, 7, 6, 5, 4, 3, 2, 1), 22);
        dueSize(Check.text(1, 1, 1, 1, 1, 1, 1, 1, 1, 1, 1, 1), Check.text(1, 2, 1), 11);
    }

    private static void wrongFilesAndRevisions() {
        RevisionStore x = Check.storeWith(1);
        for (int file : NO_FILES) {
            CHECK.due("revisions", x.revisions(file), NONE);
            CHECK.due("content", x.content(file, 0), NONE);
            CHECK.no("dead", x.dead(file, 0));
            CHECK.due("kept", x.kept(file, 0), NONE);
        }
        for (int r : NO_REVISIONS) {
            CHECK.due("content", x.content(0, r), NONE);
            CHECK.no("dead", x.dead(0, r));
            CHECK.due("kept", x.kept(0, r), NONE);
        }
        CHECK.due("not there", x.content(1, 0), NONE);
        CHECK.no("not there", x.dead(1, 0));
        CHECK.due("not there", x.kept(1, 0), NONE);
    }
}
