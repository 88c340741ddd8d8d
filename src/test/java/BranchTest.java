/** Promises 7, 8, 15, 19 and 20: tag, bring, number, named, standard. */
public final class BranchTest {
    private static final int NONE = RevisionStore.NONE;
    private static final int FULL = RevisionStore.FULL;
    private static final int UNSTICK = 5;

    private static final Check CHECK = new Check();

    public static void main(String[] args) {
        plainTag();
        branchTag();
        tagRefuses();
        tagKeepsItsSort();
        tagWithFiveBranches();
        bringMakesAFile();
        bringNextRevisions();
        bringToAFileWithoutAVendorBranch();
        bringRefuses();
        bringTooManyRevisions();
        bringTooManyBranches();
        numbersOfNestedBranches();
        numberRefuses();
        magicNumbers();
        namedRefuses();
        standardRefuses();
        CHECK.end();
    }

    private static void dueNumber(RevisionStore x, int file, int r, int... parts) {
        for (int i = 0; i < parts.length; i++) {
            CHECK.due("part " + i + " of revision " + r, x.number(file, r, i), parts[i]);
        }
        for (int i = parts.length; i < parts.length + 3; i++) {
            CHECK.due("behind the end of revision " + r, x.number(file, r, i), 0);
        }
        CHECK.due("far behind the end", x.number(file, r, Integer.MAX_VALUE), 0);
    }

    private static void plainTag() {
        RevisionStore x = Check.storeWith(1);
        CHECK.yes("plain tag", x.tag(0, 0, 0, false));
        CHECK.due("named", x.named(0, 0), 0);
        x.edit(0, 0, 2);
        x.commit(0, 0);
        CHECK.due("the tag stays", x.named(0, 0), 0);
        CHECK.yes("given anew", x.tag(0, 0, 0, false));
        CHECK.due("named anew", x.named(0, 0), 1);
        CHECK.yes("given anew to the same", x.tag(0, 0, 0, false));
        CHECK.due("named as before", x.named(0, 0), 1);
        x.edit(0, 0, 3);
        CHECK.yes("of a modified entry", x.tag(0, 0, 4, false));
        CHECK.due("its revision", x.named(0, 4), 1);
        x.remove(0, 0);
        CHECK.yes("of a removed entry", x.tag(0, 0, 3, false));
        CHECK.due("its revision", x.named(0, 3), 1);
        CHECK.due("not given", x.named(0, 1), NONE);
        CHECK.due("in another file", x.named(1, 0), NONE);
        CHECK.due("no revision more", x.revisions(0), 2);
    }

    private static void branchTag() {
        RevisionStore x = Check.storeWith(1);
        CHECK.yes("branch tag", x.tag(0, 0, 0, true));
        CHECK.due("branch", x.named(0, 0), 1);
        CHECK.yes("another", x.tag(0, 0, 1, true));
        CHECK.due("next branch", x.named(0, 1), 2);
        CHECK.due("no revision more", x.revisions(0), 1);
        CHECK.due("default stays", x.standard(0), 0);
        CHECK.due("sticky tag stays", x.sticky(0, 0), NONE);
        x.remove(0, 0);
        CHECK.yes("of a removed entry", x.tag(0, 0, 2, true));
        CHECK.due("its branch", x.named(0, 2), 3);
        CHECK.no("given to the file already", x.tag(0, 0, 0, true));
        CHECK.due("as before", x.named(0, 0), 1);
        x.add(0, 1, 2);
        x.commit(0, 1);
        CHECK.yes("the same tag in another file", x.tag(0, 1, 2, true));
        CHECK.due("that file's branch", x.named(1, 2), 1);
    }

    private static void tagRefuses() {
        RevisionStore x = new RevisionStore();
        CHECK.no("without an entry", x.tag(0, 0, 0, false));
        x.add(0, 0, 1);
        CHECK.no("of an added entry", x.tag(0, 0, 0, false));
        CHECK.no("branch of an added entry", x.tag(0, 0, 0, true));
        x.commit(0, 0);
        int[] wrong = {-1, 5, Integer.MIN_VALUE, Integer.MAX_VALUE};
        for (int tag : wrong) {
            CHECK.no("plain tag " + tag, x.tag(0, 0, tag, false));
            CHECK.no("branch tag " + tag, x.tag(0, 0, tag, true));
        }
        CHECK.no("no such client", x.tag(3, 0, 0, false));
        CHECK.no("no such client", x.tag(-1, 0, 0, true));
        CHECK.no("no such file", x.tag(0, 4, 0, false));
        CHECK.no("no such file", x.tag(0, -1, 0, true));
        CHECK.no("another client without an entry", x.tag(1, 0, 0, false));
        CHECK.due("the tag is still free", x.update(0, 0, 0), NONE);
    }

    private static void tagKeepsItsSort() {
        RevisionStore x = Check.storeWith(1);
        x.tag(0, 0, 0, false);
        x.tag(0, 0, 1, true);
        x.add(0, 1, 1);
        x.commit(0, 1);
        CHECK.no("plain as a branch tag", x.tag(0, 0, 0, true));
        CHECK.no("plain as a branch tag in another file", x.tag(0, 1, 0, true));
        CHECK.no("branch as a plain tag", x.tag(0, 0, 1, false));
        CHECK.no("branch as a plain tag in another file", x.tag(0, 1, 1, false));
        CHECK.due("not given", x.named(1, 0), NONE);
        CHECK.due("not given", x.named(1, 1), NONE);
        CHECK.yes("plain", x.tag(0, 1, 0, false));
        CHECK.yes("branch", x.tag(0, 1, 1, true));
    }

    private static void tagWithFiveBranches() {
        RevisionStore x = Check.storeWith(1);
        x.bring(0, 2);
        for (int tag = 0; tag < 4; tag++) {
            CHECK.yes("branch tag", x.tag(0, 0, tag, true));
        }
        CHECK.no("a sixth branch", x.tag(0, 0, 4, true));
        CHECK.due("not given", x.named(0, 4), NONE);
        CHECK.due("and still free", x.update(0, 0, 4), NONE);
        CHECK.yes("a plain tag", x.tag(0, 0, 4, false));
        RevisionStore y = Check.storeWith(1);
        for (int tag = 0; tag < 5; tag++) {
            CHECK.yes("branch tag", y.tag(0, 0, tag, true));
            CHECK.due("branch", y.named(0, tag), tag + 1);
        }
    }

    private static void bringMakesAFile() {
        RevisionStore x = new RevisionStore();
        CHECK.due("bring", x.bring(3, Check.text(1, 2, 3)), 1);
        CHECK.due("revisions", x.revisions(3), 2);
        CHECK.due("content", x.content(3, 0), Check.text(1, 2, 3));
        CHECK.due("content", x.content(3, 1), Check.text(1, 2, 3));
        CHECK.no("dead", x.dead(3, 0));
        CHECK.no("dead", x.dead(3, 1));
        CHECK.due("standard", x.standard(3), 1);
        dueNumber(x, 3, 0, 1, 1);
        dueNumber(x, 3, 1, 1, 1, 1, 1);
        CHECK.due("bring of the empty text", x.bring(0, 0), 1);
        CHECK.due("empty content", x.content(0, 1), 0);
    }

    private static void bringNextRevisions() {
        RevisionStore x = new RevisionStore();
        x.bring(0, 1);
        CHECK.due("second", x.bring(0, 2), 2);
        dueNumber(x, 0, 2, 1, 1, 1, 2);
        CHECK.due("the same text again", x.bring(0, 2), 3);
        dueNumber(x, 0, 3, 1, 1, 1, 3);
        CHECK.due("standard", x.standard(0), 1);
        x.update(0, 0, NONE);
        x.edit(0, 0, 3);
        x.commit(0, 0);
        CHECK.due("behind a commit", x.bring(0, 4), 5);
        dueNumber(x, 0, 5, 1, 1, 1, 4);
        CHECK.due("the default stays the trunk", x.standard(0), 0);
        CHECK.due("the head of the trunk is selected", x.selected(0, 0), 4);
    }

    private static void bringToAFileWithoutAVendorBranch() {
        RevisionStore x = Check.storeWith(1);
        x.tag(0, 0, 0, true);
        x.edit(0, 0, 2);
        x.commit(0, 0);
        CHECK.due("bring", x.bring(0, 3), 2);
        dueNumber(x, 0, 2, 1, 1, 1, 1);
        CHECK.due("content", x.content(0, 2), 3);
        CHECK.due("the default stays", x.standard(0), 0);
        x.tag(0, 0, 1, true);
        CHECK.due("the vendor branch has a number", x.named(0, 1), 3);
        CHECK.due("next", x.bring(0, 4), 3);
        dueNumber(x, 0, 3, 1, 1, 1, 2);
    }

    private static void bringRefuses() {
        RevisionStore x = new RevisionStore();
        int[] wrong = {-1, 4, Integer.MIN_VALUE, Integer.MAX_VALUE};
        for (int file : wrong) {
            CHECK.due("bring to " + file, x.bring(file, 1), NONE);
        }
        long[] noTexts = {-1, Long.MIN_VALUE, Long.MAX_VALUE, 20, 32, 17, 18, 19,
            Check.text(1, 17, 1), Check.text(1, 2, 3, 4, 5, 6, 7, 8, 9, 10, 11, 12, 13)};
        for (long text : noTexts) {
            CHECK.due("bring of " + text, x.bring(0, text), NONE);
        }
        CHECK.due("not there", x.revisions(0), 0);
        CHECK.due("twelve lines", x.bring(0, Check.text(1, 2, 3, 4, 5, 6, 7, 8, 9, 10, 11, 12)), 1);
    }

    private static void bringTooManyRevisions() {
        RevisionStore x = new RevisionStore();
        for (int r = 1; r < 24; r++) {
            CHECK.due("bring", x.bring(0, 1), r);
        }
        CHECK.due("the 25th", x.bring(0, 1), FULL);
        CHECK.due("no text before full", x.bring(0, 17), NONE);
        CHECK.due("revisions", x.revisions(0), 24);
        dueNumber(x, 0, 23, 1, 1, 1, 23);
    }

    private static void bringTooManyBranches() {
        RevisionStore x = Check.storeWith(1);
        for (int tag = 0; tag < 5; tag++) {
            x.tag(0, 0, tag, true);
        }
        CHECK.due("a sixth branch", x.bring(0, 2), FULL);
        CHECK.due("revisions", x.revisions(0), 1);
        RevisionStore y = Check.storeWith(1);
        y.bring(0, 1);
        for (int tag = 0; tag < 4; tag++) {
            y.tag(0, 0, tag, true);
        }
        CHECK.due("the vendor branch is there", y.bring(0, 2), 2);
    }

    /** Commits a revision on a new branch from each revision to the next. */
    private static void numbersOfNestedBranches() {
        RevisionStore x = Check.storeWith(1);
        for (int tag = 0; tag < 5; tag++) {
            x.tag(0, 0, tag, true);
            x.update(0, 0, tag);
            x.edit(0, 0, tag + 2);
            CHECK.due("commit", x.commit(0, 0), tag + 1);
        }
        dueNumber(x, 0, 0, 1, 1);
        dueNumber(x, 0, 1, 1, 1, 2, 1);
        dueNumber(x, 0, 2, 1, 1, 2, 1, 2, 1);
        dueNumber(x, 0, 5, 1, 1, 2, 1, 2, 1, 2, 1, 2, 1, 2, 1);
        x.edit(0, 0, 9);
        CHECK.due("commit", x.commit(0, 0), 6);
        dueNumber(x, 0, 6, 1, 1, 2, 1, 2, 1, 2, 1, 2, 1, 2, 2);
    }

    private static void numberRefuses() {
        RevisionStore x = Check.storeWith(1);
        int[] wrongFiles = {-1, 4, Integer.MIN_VALUE, Integer.MAX_VALUE};
        for (int file : wrongFiles) {
            CHECK.due("number", x.number(file, 0, 0), NONE);
        }
        int[] wrongRevisions = {-1, 1, 24, Integer.MIN_VALUE, Integer.MAX_VALUE};
        for (int r : wrongRevisions) {
            CHECK.due("number", x.number(0, r, 0), NONE);
        }
        CHECK.due("not there", x.number(1, 0, 0), NONE);
        CHECK.due("below 0", x.number(0, 0, -1), NONE);
        CHECK.due("below 0", x.number(0, 0, Integer.MIN_VALUE), NONE);
    }

    private static void magicNumbers() {
        RevisionStore x = Check.storeWith(1);
        x.tag(0, 0, 0, true);
        x.bring(0, 2);
        x.tag(0, 0, 1, true);
        x.edit(0, 0, 3);
        x.commit(0, 0);
        x.tag(0, 0, 2, true);
        int r = 3;
        int[] points = {1, 1, 2};
        int[] magics = {2, 4, 2};
        for (int tag = 0; tag < 3; tag++) {
            x.update(0, 0, tag);
            x.edit(0, 0, 10 + tag);
            CHECK.due("commit", x.commit(0, 0), r);
            dueNumber(x, 0, r, 1, points[tag], magics[tag], 1);
            x.update(0, 0, UNSTICK);
            r++;
        }
        RevisionStore y = new RevisionStore();
        y.bring(0, 1);
        y.update(0, 0, NONE);
        y.tag(0, 0, 0, true);
        y.update(0, 0, 0);
        y.edit(0, 0, 2);
        y.commit(0, 0);
        dueNumber(y, 0, 2, 1, 1, 1, 1, 2, 1);
    }

    private static void namedRefuses() {
        RevisionStore x = Check.storeWith(1);
        x.tag(0, 0, 0, false);
        int[] wrongFiles = {-1, 4, Integer.MIN_VALUE, Integer.MAX_VALUE};
        for (int file : wrongFiles) {
            CHECK.due("named", x.named(file, 0), NONE);
        }
        int[] wrongTags = {-1, 5, Integer.MIN_VALUE, Integer.MAX_VALUE};
        for (int tag : wrongTags) {
            CHECK.due("named", x.named(0, tag), NONE);
        }
    }

    private static void standardRefuses() {
        RevisionStore x = Check.storeWith(1);
        int[] wrongFiles = {-1, 4, Integer.MIN_VALUE, Integer.MAX_VALUE};
        for (int file : wrongFiles) {
            CHECK.due("standard", x.standard(file), NONE);
        }
        CHECK.due("not there", x.standard(1), NONE);
        CHECK.due("there", x.standard(0), 0);
    }
}
