/** Promise 5: commit, with the refusals in their order, and the default branch (promise 20). */
public final class CommitTest {
    private static final int NONE = RevisionStore.NONE;
    private static final int ADDED = RevisionStore.ADDED;
    private static final int STICKY = RevisionStore.STICKY;
    private static final int STALE = RevisionStore.STALE;
    private static final int UNCHANGED = RevisionStore.UNCHANGED;
    private static final int MARKED = RevisionStore.MARKED;
    private static final int FULL = RevisionStore.FULL;

    private static final Check CHECK = new Check();

    public static void main(String[] args) {
        firstCommit();
        laterCommit();
        removedEntry();
        addedAgainstASelectedRevision();
        staleRevision();
        unchangedAndMarked();
        plainStickyTag();
        orderOfRefusals();
        stickyTagOfAFileThatIsNotThere();
        stickyTagNotGivenToTheFile();
        stickyTagOnItsBranch();
        trunkBecomesTheDefault();
        branchLeavesTheDefault();
        tooManyRevisions();
        tooManyBranches();
        CHECK.end();
    }

    private static void firstCommit() {
        RevisionStore x = new RevisionStore();
        CHECK.due("commit without an entry", x.commit(0, 0), NONE);
        x.add(0, 0, Check.text(1, 2));
        CHECK.due("first commit", x.commit(0, 0), 0);
        CHECK.due("entry", x.entry(0, 0), 0);
        CHECK.due("local", x.local(0, 0), Check.text(1, 2));
        CHECK.due("content", x.content(0, 0), Check.text(1, 2));
        CHECK.no("dead", x.dead(0, 0));
        CHECK.due("standard", x.standard(0), 0);
        CHECK.due("revisions", x.revisions(0), 1);
        CHECK.due("the other file is not there", x.revisions(1), 0);
        x.add(0, 1, 0);
        CHECK.due("commit of the empty text", x.commit(0, 1), 0);
        CHECK.due("empty content", x.content(1, 0), 0);
        CHECK.no("empty is not dead", x.dead(1, 0));
    }

    private static void laterCommit() {
        RevisionStore x = Check.storeWith(1);
        for (int i = 1; i < 24; i++) {
            x.edit(0, 0, i % 2 + 1);
            CHECK.due("commit", x.commit(0, 0), i);
            CHECK.due("entry", x.entry(0, 0), i);
            CHECK.due("second part", x.number(0, i, 1), i + 1);
        }
    }

    private static void removedEntry() {
        RevisionStore x = Check.storeWith(1, 2, 3);
        x.edit(0, 0, 9);
        x.remove(0, 0);
        CHECK.due("commit of a removed one", x.commit(0, 0), 1);
        CHECK.yes("dead", x.dead(0, 1));
        CHECK.due("text of the entry's revision", x.content(0, 1), Check.text(1, 2, 3));
        CHECK.due("entry", x.entry(0, 0), NONE);
        CHECK.no("removed", x.removed(0, 0));
        CHECK.due("local", x.local(0, 0), NONE);
        CHECK.due("commit again", x.commit(0, 0), NONE);
        x.add(0, 0, 7);
        CHECK.due("commit behind a dead one", x.commit(0, 0), 2);
        CHECK.no("alive again", x.dead(0, 2));
        CHECK.due("its number", x.number(0, 2, 1), 3);
    }

    private static void addedAgainstASelectedRevision() {
        RevisionStore x = Check.storeWith(1);
        x.add(1, 0, 1);
        CHECK.due("added, selected is there", x.commit(1, 0), STALE);
        CHECK.due("entry as before", x.entry(1, 0), ADDED);
        CHECK.due("no revision more", x.revisions(0), 1);
        x.remove(0, 0);
        x.commit(0, 0);
        CHECK.due("added, selected is dead", x.commit(1, 0), 2);
    }

    private static void staleRevision() {
        RevisionStore x = Check.storeWith(1);
        x.update(1, 0, NONE);
        x.edit(0, 0, 2);
        x.commit(0, 0);
        CHECK.due("not selected and not modified", x.commit(1, 0), STALE);
        x.edit(1, 0, 3);
        CHECK.due("not selected and modified", x.commit(1, 0), STALE);
        CHECK.due("local as before", x.local(1, 0), 3);
        x.remove(1, 0);
        CHECK.due("not selected and removed", x.commit(1, 0), STALE);
        CHECK.yes("removed as before", x.removed(1, 0));
        RevisionStore y = new RevisionStore();
        y.bring(0, 1);
        y.update(0, 0, NONE);
        y.bring(0, 2);
        y.edit(0, 0, 3);
        CHECK.due("the vendor brought a newer one", y.commit(0, 0), STALE);
    }

    private static void unchangedAndMarked() {
        RevisionStore x = Check.storeWith(1);
        CHECK.due("unchanged", x.commit(0, 0), UNCHANGED);
        x.edit(0, 0, 2);
        x.edit(0, 0, 1);
        CHECK.due("changed back", x.commit(0, 0), UNCHANGED);
        for (int mark = 17; mark <= 19; mark++) {
            x.edit(0, 0, Check.text(1, mark, 2));
            CHECK.due("marked", x.commit(0, 0), MARKED);
        }
        x.edit(0, 0, 16);
        CHECK.due("the line before the marks", x.commit(0, 0), 1);
        x.add(0, 1, 1);
        x.edit(0, 1, 17);
        CHECK.due("marked and added", x.commit(0, 1), MARKED);
        CHECK.due("no file is made", x.revisions(1), 0);
        x.edit(0, 0, 18);
        x.remove(0, 0);
        CHECK.due("a removed one has no marks", x.commit(0, 0), 2);
    }

    private static void plainStickyTag() {
        RevisionStore x = Check.storeWith(1);
        x.tag(0, 0, 2, false);
        x.update(0, 0, 2);
        CHECK.due("plain, unchanged", x.commit(0, 0), STICKY);
        x.edit(0, 0, 2);
        CHECK.due("plain, modified", x.commit(0, 0), STICKY);
        x.remove(0, 0);
        CHECK.due("plain, removed", x.commit(0, 0), STICKY);
        x.add(0, 1, 1);
        x.update(0, 1, 2);
        CHECK.due("plain, added, not given to the file", x.commit(0, 1), STICKY);
        CHECK.due("no file is made", x.revisions(1), 0);
        x.update(2, 3, 2);
        CHECK.due("no entry before plain", x.commit(2, 3), NONE);
    }

    private static void orderOfRefusals() {
        RevisionStore x = Check.storeWith(1);
        x.tag(0, 0, 0, false);
        x.update(1, 0, 0);
        x.edit(0, 0, 2);
        x.commit(0, 0);
        x.tag(0, 0, 0, false);
        x.edit(1, 0, 17);
        CHECK.due("plain before stale and marked", x.commit(1, 0), STICKY);
        RevisionStore y = Check.storeWith(1);
        y.update(1, 0, NONE);
        y.edit(0, 0, 2);
        y.commit(0, 0);
        y.edit(1, 0, 17);
        CHECK.due("stale before marked", y.commit(1, 0), STALE);
        RevisionStore z = filled();
        CHECK.due("unchanged before full", z.commit(0, 0), UNCHANGED);
        z.edit(0, 0, 17);
        CHECK.due("marked before full", z.commit(0, 0), MARKED);
    }

    private static RevisionStore filled() {
        RevisionStore x = Check.storeWith(1);
        for (int i = 1; i < 24; i++) {
            x.edit(0, 0, i % 2 + 1);
            x.commit(0, 0);
        }
        return x;
    }

    private static void stickyTagOfAFileThatIsNotThere() {
        RevisionStore x = Check.storeWith(1);
        x.tag(0, 0, 4, true);
        x.add(1, 2, Check.text(5, 6));
        x.update(1, 2, 4);
        CHECK.due("commit", x.commit(1, 2), 1);
        CHECK.due("revisions", x.revisions(2), 2);
        CHECK.yes("1.1 is dead", x.dead(2, 0));
        CHECK.due("1.1 is empty", x.content(2, 0), 0);
        CHECK.no("1.1.2.1 is not dead", x.dead(2, 1));
        CHECK.due("1.1.2.1 has the text", x.content(2, 1), Check.text(5, 6));
        CHECK.due("magic", x.number(2, 1, 2), 2);
        CHECK.due("named", x.named(2, 4), 1);
        CHECK.due("standard", x.standard(2), 0);
        CHECK.due("entry", x.entry(1, 2), 1);
        CHECK.due("sticky stays", x.sticky(1, 2), 4);
        CHECK.due("selected on the trunk", x.selected(0, 2), 0);
    }

    private static void stickyTagNotGivenToTheFile() {
        RevisionStore x = Check.storeWith(1);
        x.tag(0, 0, 4, true);
        x.add(0, 1, 1);
        x.commit(0, 1);
        x.edit(0, 1, 2);
        x.commit(0, 1);
        x.add(1, 1, 9);
        CHECK.due("update to a tag not given", x.update(1, 1, 4), 0);
        CHECK.due("selected is none", x.selected(1, 1), NONE);
        CHECK.due("commit", x.commit(1, 1), 2);
        CHECK.due("named", x.named(1, 4), 1);
        CHECK.due("point's second part", x.number(1, 2, 1), 2);
        CHECK.due("magic", x.number(1, 2, 2), 2);
        CHECK.due("k", x.number(1, 2, 3), 1);
        CHECK.due("trunk as before", x.selected(0, 1), 1);
    }

    private static void stickyTagOnItsBranch() {
        RevisionStore x = Check.storeWith(1);
        x.tag(0, 0, 0, true);
        x.update(0, 0, 0);
        x.edit(0, 0, 2);
        CHECK.due("first on the branch", x.commit(0, 0), 1);
        x.edit(0, 0, 3);
        CHECK.due("second on the branch", x.commit(0, 0), 2);
        CHECK.due("k", x.number(0, 2, 3), 2);
        x.remove(0, 0);
        CHECK.due("removed on the branch", x.commit(0, 0), 3);
        CHECK.yes("dead on the branch", x.dead(0, 3));
        CHECK.due("its text", x.content(0, 3), 3);
        CHECK.due("selected", x.selected(0, 0), 3);
        CHECK.due("trunk", x.selected(1, 0), 0);
        x.add(0, 0, 4);
        CHECK.due("added behind the dead one", x.commit(0, 0), 4);
        CHECK.due("k behind the dead one", x.number(0, 4, 3), 4);
    }

    private static void trunkBecomesTheDefault() {
        RevisionStore x = new RevisionStore();
        x.bring(0, 1);
        CHECK.due("vendor is the default", x.standard(0), 1);
        x.update(0, 0, NONE);
        CHECK.due("unchanged", x.commit(0, 0), UNCHANGED);
        CHECK.due("a refused commit leaves the default", x.standard(0), 1);
        x.remove(0, 0);
        CHECK.due("commit", x.commit(0, 0), 2);
        CHECK.due("trunk is the default", x.standard(0), 0);
        CHECK.due("on the trunk", x.number(0, 2, 1), 2);
        CHECK.due("behind its end", x.number(0, 2, 2), 0);
    }

    private static void branchLeavesTheDefault() {
        RevisionStore x = new RevisionStore();
        x.bring(0, 1);
        x.update(0, 0, NONE);
        x.tag(0, 0, 1, true);
        x.update(0, 0, 1);
        x.edit(0, 0, 2);
        CHECK.due("commit on a branch", x.commit(0, 0), 2);
        CHECK.due("default stays", x.standard(0), 1);
        x.add(1, 1, 3);
        x.update(1, 1, 1);
        x.bring(1, 4);
        CHECK.due("a new branch leaves the trunk alone", x.commit(1, 1), 2);
        CHECK.due("its point is the head of the trunk", x.number(1, 2, 2), 2);
        CHECK.due("kept against 1.1", x.kept(1, 2), 2);
        CHECK.due("default stays with the vendor", x.standard(1), 1);
        CHECK.due("named behind the vendor", x.named(1, 1), 2);
    }

    private static void tooManyRevisions() {
        RevisionStore x = filled();
        x.edit(0, 0, 5);
        CHECK.due("the 25th", x.commit(0, 0), FULL);
        CHECK.due("revisions", x.revisions(0), 24);
        CHECK.due("entry", x.entry(0, 0), 23);
        x.remove(0, 0);
        CHECK.due("the 25th, dead", x.commit(0, 0), FULL);
        CHECK.yes("still removed", x.removed(0, 0));
        CHECK.due("the 25th, brought", x.bring(0, 1), FULL);
        CHECK.due("no vendor branch", x.standard(0), 0);
        CHECK.due("another file has room", x.bring(1, 1), 1);
        x.update(1, 1, NONE);
        x.tag(1, 1, 3, true);
        x.add(1, 0, 5);
        x.update(1, 0, 3);
        CHECK.due("the 25th on a new branch", x.commit(1, 0), FULL);
        CHECK.due("the tag is not given", x.named(0, 3), NONE);
    }

    private static void tooManyBranches() {
        RevisionStore x = Check.storeWith(1);
        for (int tag = 0; tag < 4; tag++) {
            x.tag(0, 0, tag, true);
        }
        x.bring(0, 2);
        x.add(0, 1, 1);
        x.commit(0, 1);
        x.tag(0, 1, 4, true);
        x.add(1, 0, 3);
        x.update(1, 0, 4);
        CHECK.due("a sixth branch", x.commit(1, 0), FULL);
        CHECK.due("the tag is not given", x.named(0, 4), NONE);
        CHECK.due("revisions", x.revisions(0), 2);
        CHECK.due("entry", x.entry(1, 0), ADDED);
        x.update(0, 0, 3);
        x.edit(0, 0, 4);
        CHECK.due("the fifth branch of its own", x.commit(0, 0), 2);
    }
}
