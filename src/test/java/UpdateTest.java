/** Promises 6, 12 and 13: update, selected and sticky, and merging. */
public final class UpdateTest {
    private static final int NONE = RevisionStore.NONE;
    private static final int ADDED = RevisionStore.ADDED;
    private static final int FULL = RevisionStore.FULL;
    private static final int UNSTICK = 5;

    private static final Check CHECK = new Check();

    public static void main(String[] args) {
        wrongStickyTags();
        withoutAnEntry();
        addedEntry();
        removedEntry();
        selectedRevisionIsNone();
        selectedRevisionIsDead();
        newerRevision();
        stickyTags();
        plainTagMovedBelowASandbox();
        selectedRevisions();
        merges();
        overlaps();
        theDifferencesChoice();
        fullMergeChangesNothing();
        CHECK.end();
    }

    private static void wrongStickyTags() {
        RevisionStore x = Check.storeWith(1);
        x.tag(0, 0, 1, false);
        int[] wrong = {0, 2, 3, 4, 6, -2, Integer.MIN_VALUE, Integer.MAX_VALUE};
        for (int sticky : wrong) {
            CHECK.due("update to " + sticky, x.update(1, 0, sticky), NONE);
            CHECK.due("no sticky tag", x.sticky(1, 0), NONE);
            CHECK.due("no entry", x.entry(1, 0), NONE);
        }
        CHECK.due("update to 1", x.update(1, 0, 1), 2);
    }

    private static void withoutAnEntry() {
        RevisionStore x = new RevisionStore();
        CHECK.due("the file is not there", x.update(0, 0, NONE), 0);
        CHECK.due("entry", x.entry(0, 0), NONE);
        x.add(1, 0, Check.text(3, 4));
        x.commit(1, 0);
        CHECK.due("the file is there", x.update(0, 0, NONE), 2);
        CHECK.due("entry", x.entry(0, 0), 0);
        CHECK.due("local", x.local(0, 0), Check.text(3, 4));
        x.remove(1, 0);
        x.commit(1, 0);
        CHECK.due("the head is dead", x.update(2, 0, NONE), 0);
        CHECK.due("entry", x.entry(2, 0), NONE);
        x.tag(0, 0, 0, true);
        CHECK.due("none, under a sticky tag", x.update(2, 1, 0), 0);
        CHECK.due("sticky", x.sticky(2, 1), 0);
    }

    private static void addedEntry() {
        RevisionStore x = Check.storeWith(1);
        x.tag(0, 0, 0, false);
        x.add(1, 0, 2);
        CHECK.due("in the way", x.update(1, 0, 0), 3);
        CHECK.due("no sticky tag by 3", x.sticky(1, 0), NONE);
        CHECK.due("entry", x.entry(1, 0), ADDED);
        CHECK.due("local", x.local(1, 0), 2);
        x.remove(0, 0);
        x.commit(0, 0);
        CHECK.due("dead", x.update(1, 0, NONE), 0);
        CHECK.due("entry", x.entry(1, 0), ADDED);
        CHECK.due("local", x.local(1, 0), 2);
        x.add(1, 1, 3);
        CHECK.due("none", x.update(1, 1, 0), 0);
        CHECK.due("sticky by 0", x.sticky(1, 1), 0);
        CHECK.due("entry", x.entry(1, 1), ADDED);
    }

    private static void removedEntry() {
        RevisionStore x = Check.storeWith(1);
        x.tag(0, 0, 0, false);
        x.update(1, 0, NONE);
        x.remove(1, 0);
        CHECK.due("removed, the same one selected", x.update(1, 0, 0), 0);
        CHECK.due("sticky by 0", x.sticky(1, 0), 0);
        CHECK.yes("still removed", x.removed(1, 0));
        x.update(1, 0, UNSTICK);
        x.edit(0, 0, 2);
        x.commit(0, 0);
        CHECK.due("removed, another selected", x.update(1, 0, NONE), 0);
        CHECK.due("entry stays", x.entry(1, 0), 0);
        CHECK.yes("still removed", x.removed(1, 0));
        x.remove(0, 0);
        x.commit(0, 0);
        CHECK.due("removed, a dead one selected", x.update(1, 0, NONE), 1);
        CHECK.due("entry", x.entry(1, 0), NONE);
        CHECK.no("not removed", x.removed(1, 0));
        x.add(0, 1, 1);
        x.commit(0, 1);
        x.remove(0, 1);
        CHECK.due("removed, none selected", x.update(0, 1, 0), 1);
        CHECK.due("entry", x.entry(0, 1), NONE);
        CHECK.due("sticky by 1", x.sticky(0, 1), 0);
    }

    private static void selectedRevisionIsNone() {
        RevisionStore x = Check.storeWith(1);
        x.tag(0, 0, 0, true);
        x.add(0, 1, 1);
        x.commit(0, 1);
        x.edit(0, 1, 2);
        CHECK.due("modified, none selected", x.update(0, 1, 0), 3);
        CHECK.due("no sticky tag by 3", x.sticky(0, 1), NONE);
        CHECK.due("local", x.local(0, 1), 2);
        x.edit(0, 1, 1);
        CHECK.due("not modified, none selected", x.update(0, 1, 0), 1);
        CHECK.due("sticky by 1", x.sticky(0, 1), 0);
        CHECK.due("entry", x.entry(0, 1), NONE);
        CHECK.due("local", x.local(0, 1), NONE);
        CHECK.due("back", x.update(0, 1, UNSTICK), 2);
        CHECK.due("sticky", x.sticky(0, 1), NONE);
    }

    private static void selectedRevisionIsDead() {
        RevisionStore x = Check.storeWith(1);
        x.update(1, 0, NONE);
        x.update(2, 0, NONE);
        x.edit(2, 0, 3);
        x.remove(0, 0);
        x.commit(0, 0);
        CHECK.due("not modified, dead", x.update(1, 0, NONE), 1);
        CHECK.due("entry", x.entry(1, 0), NONE);
        CHECK.due("local", x.local(1, 0), NONE);
        CHECK.due("modified, dead", x.update(2, 0, NONE), 3);
        CHECK.due("entry", x.entry(2, 0), 0);
        CHECK.due("local", x.local(2, 0), 3);
    }

    private static void newerRevision() {
        RevisionStore x = Check.storeWith(1);
        x.update(1, 0, NONE);
        CHECK.due("up to date", x.update(1, 0, NONE), 0);
        x.edit(1, 0, 9);
        CHECK.due("up to date and modified", x.update(1, 0, NONE), 0);
        CHECK.due("local", x.local(1, 0), 9);
        x.edit(1, 0, 1);
        x.edit(0, 0, 2);
        x.commit(0, 0);
        CHECK.due("newer", x.update(1, 0, NONE), 2);
        CHECK.due("entry", x.entry(1, 0), 1);
        CHECK.due("local", x.local(1, 0), 2);
    }

    private static void stickyTags() {
        RevisionStore x = Check.storeWith(1);
        x.tag(0, 0, 2, false);
        x.tag(0, 0, 4, true);
        CHECK.due("to a plain tag", x.update(0, 0, 2), 0);
        CHECK.due("sticky", x.sticky(0, 0), 2);
        CHECK.due("sticky of another client", x.sticky(1, 0), NONE);
        CHECK.due("sticky of another file", x.sticky(0, 1), NONE);
        CHECK.due("left", x.update(0, 0, NONE), 0);
        CHECK.due("sticky left", x.sticky(0, 0), 2);
        CHECK.due("to a branch tag", x.update(0, 0, 4), 0);
        CHECK.due("sticky", x.sticky(0, 0), 4);
        x.remove(0, 0);
        CHECK.due("remove leaves the sticky tag", x.sticky(0, 0), 4);
        x.commit(0, 0);
        CHECK.due("commit leaves the sticky tag", x.sticky(0, 0), 4);
        CHECK.due("to none", x.update(0, 0, UNSTICK), 2);
        CHECK.due("sticky", x.sticky(0, 0), NONE);
        CHECK.due("none again", x.update(0, 0, UNSTICK), 0);
    }

    private static void plainTagMovedBelowASandbox() {
        RevisionStore x = Check.storeWith(1);
        x.tag(0, 0, 0, false);
        x.update(1, 0, 0);
        x.edit(0, 0, 2);
        x.commit(0, 0);
        CHECK.due("an old revision", x.update(1, 0, NONE), 0);
        x.tag(0, 0, 0, false);
        CHECK.due("selected", x.selected(1, 0), 1);
        CHECK.due("the tag was given anew", x.update(1, 0, NONE), 2);
        CHECK.due("local", x.local(1, 0), 2);
    }

    private static void selectedRevisions() {
        RevisionStore x = new RevisionStore();
        CHECK.due("not there", x.selected(0, 0), NONE);
        x.bring(0, 1);
        CHECK.due("head of the vendor branch", x.selected(0, 0), 1);
        x.bring(0, 2);
        CHECK.due("its next head", x.selected(0, 0), 2);
        x.update(0, 0, NONE);
        x.tag(0, 0, 0, true);
        x.tag(0, 0, 1, false);
        x.edit(0, 0, 3);
        x.commit(0, 0);
        CHECK.due("head of the trunk", x.selected(1, 0), 3);
        x.update(1, 0, 0);
        CHECK.due("point of a branch without revisions", x.selected(1, 0), 2);
        x.edit(1, 0, 4);
        x.commit(1, 0);
        CHECK.due("head of a branch", x.selected(1, 0), 4);
        x.update(2, 0, 1);
        CHECK.due("named by a plain tag", x.selected(2, 0), 2);
        x.update(2, 1, 1);
        CHECK.due("a tag of a file that is not there", x.selected(2, 1), NONE);
        x.bring(1, 1);
        CHECK.due("a plain tag not given", x.selected(2, 1), NONE);
        x.update(1, 1, 0);
        CHECK.due("a branch tag not given", x.selected(1, 1), NONE);
        x.update(1, 0, UNSTICK);
        x.remove(1, 0);
        x.commit(1, 0);
        CHECK.due("a dead head is selected", x.selected(0, 0), 5);
    }

    private static long[] row(long... numbers) {
        return numbers;
    }

    /** Updates a sandbox with the local text A, from O, to the selected text B. */
    private static void merging(long[] texts, int answer, long merged) {
        RevisionStore x = new RevisionStore();
        x.add(0, 0, texts[0]);
        x.commit(0, 0);
        x.update(1, 0, NONE);
        x.edit(0, 0, texts[2]);
        x.commit(0, 0);
        x.edit(1, 0, texts[1]);
        String what = "merging " + texts[1] + " and " + texts[2] + " from " + texts[0];
        CHECK.due(what, x.update(1, 0, NONE), answer);
        CHECK.due("local after " + what, x.local(1, 0), merged);
        CHECK.due("entry after " + what, x.entry(1, 0), answer == FULL ? 0 : 1);
    }

    private static void merges() {
        merging(row(Check.text(1, 2, 3), Check.text(9, 2, 3), Check.text(1, 2, 8)),
            4, Check.text(9, 2, 8));
        merging(row(Check.text(1, 2, 3), Check.text(2, 3), Check.text(1, 2)),
            4, Check.text(2));
        merging(row(Check.text(1, 2, 3), Check.text(1, 4, 2, 3), Check.text(1, 2, 5, 3)),
            4, Check.text(1, 4, 2, 5, 3));
        merging(row(Check.text(1, 2, 3), Check.text(1, 7, 3), Check.text(1, 7, 3)),
            4, Check.text(1, 7, 3));
        merging(row(0, Check.text(4), Check.text(4)), 4, Check.text(4));
        merging(row(Check.text(1), Check.text(1, 17), Check.text(2, 1)),
            4, Check.text(2, 1, 17));
        merging(row(Check.text(1, 2, 3), Check.text(2, 3, 6), Check.text(1, 2, 3, 6)),
            4, Check.text(2, 3, 6));
    }

    private static void overlaps() {
        merging(row(Check.text(1, 2, 3), Check.text(1, 7, 3), Check.text(1, 8, 3)),
            5, Check.text(1, 17, 7, 18, 8, 19, 3));
        merging(row(0, Check.text(1), Check.text(2)), 5, Check.text(17, 1, 18, 2, 19));
        merging(row(Check.text(1, 2), 0, Check.text(1)), 5, Check.text(17, 18, 1, 19));
        merging(row(Check.text(1, 2, 3), 0, Check.text(1, 2, 3, 4)),
            5, Check.text(17, 18, 1, 2, 3, 4, 19));
        merging(row(Check.text(5), Check.text(1, 5, 3), Check.text(2, 5, 4)),
            5, Check.text(17, 1, 18, 2, 19, 5, 17, 3, 18, 4, 19));
        merging(row(Check.text(1, 2), Check.text(1, 6), Check.text(1)),
            5, Check.text(1, 17, 6, 18, 19));
        merging(row(Check.text(1, 2, 3), Check.text(4, 2, 7), Check.text(5, 2, 7)),
            5, Check.text(17, 4, 18, 5, 19, 2, 7));
        merging(row(Check.text(1, 2, 3, 4), Check.text(1, 9, 3, 4), Check.text(1, 2, 8, 4)),
            5, Check.text(1, 17, 9, 3, 18, 2, 8, 19, 4));
    }

    /** Where two longest common subsequences are to be had, the first text's line is passed. */
    private static void theDifferencesChoice() {
        merging(row(Check.text(1, 2), Check.text(2, 1), Check.text(3, 1, 2)),
            5, Check.text(17, 18, 3, 1, 19, 2, 1));
        merging(row(Check.text(1, 2), Check.text(1, 2, 3), Check.text(2, 1)),
            5, Check.text(2, 17, 3, 18, 1, 19));
        merging(row(Check.text(1, 1), Check.text(1), Check.text(1, 5, 1)),
            5, Check.text(1, 17, 18, 5, 1, 19));
    }

    private static void fullMergeChangesNothing() {
        long longest = Check.text(1, 2, 3, 4, 5, 17, 6, 18, 7, 19, 9, 10);
        merging(row(Check.text(1, 2, 3, 4, 5, 8, 9, 10), Check.text(1, 2, 3, 4, 5, 6, 9, 10),
            Check.text(1, 2, 3, 4, 5, 7, 9, 10)), 5, longest);
        long mine = Check.text(1, 2, 3, 4, 5, 6, 9, 10, 11);
        merging(row(Check.text(1, 2, 3, 4, 5, 8, 9, 10, 11), mine,
            Check.text(1, 2, 3, 4, 5, 7, 9, 10, 11)), FULL, mine);
        long twelve = Check.text(1, 1, 1, 1, 1, 1, 1, 1, 1, 1, 1, 1);
        merging(row(0, twelve, Check.text(2, 2, 2, 2, 2, 2, 2, 2, 2, 2, 2, 2)), FULL, twelve);
        RevisionStore x = Check.storeWith(1, 2, 3, 4, 5, 8, 9, 10, 11);
        x.update(1, 0, NONE);
        x.edit(0, 0, Check.text(1, 2, 3, 4, 5, 7, 9, 10, 11));
        x.commit(0, 0);
        x.tag(0, 0, 3, true);
        x.edit(1, 0, mine);
        CHECK.due("full under a new sticky tag", x.update(1, 0, 3), FULL);
        CHECK.due("no sticky tag by FULL", x.sticky(1, 0), NONE);
        CHECK.due("entry", x.entry(1, 0), 0);
        CHECK.due("local", x.local(1, 0), mine);
        x.edit(1, 0, Check.text(1, 2, 3, 4, 5, 8, 9, 10, 12));
        CHECK.due("merged under a new sticky tag", x.update(1, 0, 3), 4);
        CHECK.due("sticky", x.sticky(1, 0), 3);
        CHECK.due("local", x.local(1, 0), Check.text(1, 2, 3, 4, 5, 7, 9, 10, 12));
    }
}
