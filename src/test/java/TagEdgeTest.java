/** The boundary cases of promise 7, tag, and of the terms FREE, PLAIN and BRANCH tag. */
public final class TagEdgeTest extends Stories {
    private static final Story REMOVED = ONE.then(remove(0, 0));
    private static final Story TWO_FILES = ONE.then(add(0, 1, 1), commit(0, 1));

    public static void main(String[] args) {
        plainNamesTheRevision();
        branchHasThatPoint();
        givenAnew();
        entryIsNoRevision();
        removedEntryIsARevision();
        otherSort();
        refusedTagStaysFree();
        sortHoldsForAllFiles();
        branchTagGivenAlready();
        fiveBranches();
        fiveBranchesLeaveRoomForPlainTags();
        end();
    }

    private static void plainNamesTheRevision() {
        sentence("it names the revision of the client's entry");
        Story two = grown(ONE.then(update(1, 0, NONE)), 0, 0, 2);
        answers(two.then(plainTag(0, 0, 0)), named(0, 0), 1);
        answers(two.then(plainTag(1, 0, 0)), named(0, 0), 0);
        answers(two.then(edit(1, 0, 9), plainTag(1, 0, 0)), named(0, 0), 0);
        answers(two.then(plainTag(1, 0, 0)), named(1, 0), NONE);
        answers(two.then(plainTag(1, 0, 0)), revisions(0), 2);
        Story last = grown(ONE, 0, 0, MAX_REVISIONS);
        answers(last.then(plainTag(0, 0, 0)), named(0, 0), 23);
    }

    private static void branchHasThatPoint() {
        sentence("when branch is true, a new branch whose point is that");
        Story two = grown(ONE.then(update(1, 0, NONE)), 0, 0, 2);
        Story branched = two.then(branchTag(1, 0, 0), branchTag(0, 0, 1));
        answers(branched, named(0, 0), 1);
        answers(branched, named(0, 1), 2);
        answers(branched.then(update(2, 0, 0)), selected(2, 0), 0);
        answers(branched.then(update(2, 0, 1)), selected(2, 0), 1);
        dueNumber(branched.then(update(2, 0, 0), edit(2, 0, 9), commit(2, 0)), 0, 2, 1, 1, 2, 1);
        dueNumber(branched.then(update(2, 0, 1), edit(2, 0, 9), commit(2, 0)), 0, 2, 1, 2, 2, 1);
    }

    private static void givenAnew() {
        sentence("It may be given anew: a plain one names the new revision then");
        Story two = grown(ONE.then(update(1, 0, NONE), plainTag(0, 0, 2)), 0, 0, 2);
        answers(two, named(0, 2), 0);
        answers(two, plainTag(0, 0, 2), YES);
        answers(two.then(plainTag(0, 0, 2)), named(0, 2), 1);
        answers(two.then(plainTag(0, 0, 2), plainTag(1, 0, 2)), named(0, 2), 0);
        answers(two.then(plainTag(0, 0, 2), plainTag(0, 0, 2)), named(0, 2), 1);
    }

    private static void entryIsNoRevision() {
        sentence("False when the entry is no revision");
        Story[] stories = {NEW, NEW.then(add(0, 0, 1)), REMOVED.then(commit(0, 0)),
            REMOVED.then(commit(0, 0), add(0, 0, 1)), NEW.then(bring(0, 1)),
            ONE.then(add(1, 1, 1), commit(1, 1), add(0, 1, 2), remove(0, 0), commit(0, 0))};
        for (Story story : stories) {
            for (int tag = 0; tag < TAGS; tag++) {
                refuses(story, plainTag(0, 0, tag), NO);
                refuses(story, branchTag(0, 0, tag), NO);
            }
        }
        refuses(ONE, plainTag(1, 0, 0), NO);
        refuses(ONE, branchTag(0, 1, 0), NO);
        Story given = TWO_FILES.then(plainTag(0, 0, 0), branchTag(0, 0, 1));
        refuses(given, plainTag(1, 1, 0), NO);
        refuses(given, branchTag(1, 1, 1), NO);
    }

    private static void removedEntryIsARevision() {
        sentence("one that is removed is");
        answers(REMOVED, plainTag(0, 0, 0), YES);
        answers(REMOVED.then(plainTag(0, 0, 0)), named(0, 0), 0);
        answers(REMOVED, branchTag(0, 0, 0), YES);
        Story branched = REMOVED.then(branchTag(0, 0, 0));
        answers(branched, named(0, 0), 1);
        answers(branched.then(update(1, 0, 0)), selected(1, 0), 0);
        dueCopy(branched, 0, 0, 0, YES, NONE);
    }

    private static void otherSort() {
        sentence("False when the tag is not free and of the other sort");
        Story plain = TWO_FILES.then(plainTag(0, 0, 0));
        refuses(plain, branchTag(0, 0, 0), NO);
        refuses(plain, branchTag(0, 1, 0), NO);
        Story branch = TWO_FILES.then(branchTag(0, 0, 0));
        refuses(branch, plainTag(0, 0, 0), NO);
        refuses(branch, plainTag(0, 1, 0), NO);
        answers(plain, branchTag(0, 0, 1), YES);
        answers(branch, plainTag(0, 0, 1), YES);
    }

    private static void refusedTagStaysFree() {
        sentence("A tag is FREE at first; it becomes one when it is first given");
        Story added = NEW.then(add(0, 0, 1));
        answers(added.tried(plainTag(0, 0, 0)).then(commit(0, 0)), branchTag(0, 0, 0), YES);
        answers(added.tried(branchTag(0, 0, 0)).then(commit(0, 0)), plainTag(0, 0, 0), YES);
        answers(ONE.tried(plainTag(1, 0, 0)), branchTag(0, 0, 0), YES);
        answers(ONE.tried(branchTag(1, 0, 0)), plainTag(0, 0, 0), YES);
        refuses(ONE.tried(branchTag(1, 0, 0)), update(1, 0, 0), NONE);
    }

    private static void sortHoldsForAllFiles() {
        sentence("and stays that for all files");
        Story plain = TWO_FILES.then(plainTag(0, 0, 0));
        answers(plain, named(1, 0), NONE);
        answers(plain, update(1, 1, 0), 0);
        answers(plain, plainTag(0, 1, 0), YES);
        answers(plain.then(add(2, 2, 1), update(2, 2, 0)), commit(2, 2), STICKY);
        Story branch = TWO_FILES.then(branchTag(0, 0, 0));
        answers(branch, named(1, 0), NONE);
        answers(branch, update(1, 1, 0), 0);
        answers(branch, branchTag(0, 1, 0), YES);
        answers(branch.then(add(2, 2, 1), update(2, 2, 0)), commit(2, 2), 1);
    }

    private static void branchTagGivenAlready() {
        sentence("False when it is a branch tag, and it is given to the file already");
        Story once = TWO_FILES.then(branchTag(0, 0, 0));
        refuses(once, branchTag(0, 0, 0), NO);
        refuses(grown(once, 0, 0, 2), branchTag(0, 0, 0), NO);
        refuses(once.then(update(1, 0, 0)), branchTag(1, 0, 0), NO);
        answers(once, branchTag(0, 1, 0), YES);
        Story byCommit = once.then(add(1, 1, 2), update(1, 1, 0), commit(1, 1));
        answers(byCommit, named(1, 0), 1);
        refuses(byCommit, branchTag(0, 1, 0), NO);
        refuses(byCommit, branchTag(1, 1, 0), NO);
    }

    private static void fiveBranches() {
        sentence("or the file has five branches besides the trunk");
        Story four = ONE.then(branchTag(0, 0, 0), branchTag(0, 0, 1), branchTag(0, 0, 2),
            branchTag(0, 0, 3));
        answers(four, branchTag(0, 0, 4), YES);
        answers(four.then(branchTag(0, 0, 4)), named(0, 4), 5);
        Story five = four.then(bring(0, 2));
        refuses(five, branchTag(0, 0, 4), NO);
        refuses(five.then(remove(0, 0)), branchTag(0, 0, 4), NO);
        Story alreadyABranchTag = five.then(add(0, 1, 1), commit(0, 1), branchTag(0, 1, 4));
        refuses(alreadyABranchTag, branchTag(0, 0, 4), NO);
        answers(five.then(add(0, 1, 1), commit(0, 1)), branchTag(0, 1, 4), YES);
    }

    private static void fiveBranchesLeaveRoomForPlainTags() {
        sentence("a plain tag needs no branch");
        Story five = ONE.then(branchTag(0, 0, 0), branchTag(0, 0, 1), branchTag(0, 0, 2),
            branchTag(0, 0, 3), bring(0, 2));
        answers(five, plainTag(0, 0, 4), YES);
        answers(five.then(plainTag(0, 0, 4)), named(0, 4), 0);
        answers(five.tried(branchTag(0, 0, 4)), plainTag(0, 0, 4), YES);
    }
}
