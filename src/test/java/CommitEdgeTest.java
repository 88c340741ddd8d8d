/** The boundary cases of promise 5, commit: its refusals, their order, and what it makes. */
public final class CommitEdgeTest extends Stories {
    /** Client 1 has revision 0 of file 0, of which client 0 has committed a second one. */
    private static final Story BEHIND = grown(ONE.then(update(1, 0, NONE)), 0, 0, 2);
    private static final Story FILLED = grown(ONE, 0, 0, MAX_REVISIONS);
    private static final Story DEAD = ONE.then(remove(0, 0), commit(0, 0));
    /** Client 1 is on the branch of tag 0 in file 0, which has no revision yet. */
    private static final Story BRANCHED = ONE.then(branchTag(0, 0, 0), update(1, 0, 0));

    public static void main(String[] args) {
        noEntry();
        plainStickyTag();
        branchOrNoStickyTag();
        staleAdded();
        addedUpToDate();
        staleRevision();
        revisionUpToDate();
        unchanged();
        modified();
        marked();
        removedHasNoMarks();
        noEntryBeforeSticky();
        stickyBeforeTheOthers();
        staleBeforeTheOthers();
        unchangedAndMarkedBeforeFull();
        newRevision();
        removedRevision();
        fileIsMade();
        fileIsMadeUnderAStickyTag();
        stickyTagIsGiven();
        defaultBranch();
        end();
    }

    private static void noEntry() {
        sentence("NONE when it has no entry");
        refuses(NEW, commit(0, 0), NONE);
        refuses(ONE, commit(1, 0), NONE);
        refuses(ONE, commit(0, 1), NONE);
        refuses(DEAD, commit(0, 0), NONE);
        refuses(NEW.then(add(0, 0, 1), remove(0, 0)), commit(0, 0), NONE);
        refuses(NEW.then(bring(0, 1)), commit(0, 0), NONE);
        refuses(BRANCHED.then(update(2, 1, 0)), commit(2, 1), NONE);
    }

    private static void plainStickyTag() {
        sentence("STICKY, when the sticky tag is plain");
        Story plain = ONE.then(plainTag(0, 0, 2), update(0, 0, 2));
        refuses(plain, commit(0, 0), STICKY);
        refuses(plain.then(edit(0, 0, 2)), commit(0, 0), STICKY);
        refuses(plain.then(remove(0, 0)), commit(0, 0), STICKY);
        Story notGiven = plain.then(add(0, 1, 1), update(0, 1, 2));
        refuses(notGiven, commit(0, 1), STICKY);
        Story there = ONE.then(plainTag(0, 0, 2), bring(1, 3), add(0, 1, 1), update(0, 1, 2));
        refuses(there, commit(0, 1), STICKY);
    }

    private static void branchOrNoStickyTag() {
        sentence("STICKY only when the sticky tag is plain");
        answers(BRANCHED.then(edit(1, 0, 2)), commit(1, 0), 1);
        answers(ONE.then(plainTag(0, 0, 2), edit(0, 0, 2)), commit(0, 0), 1);
        Story unstuck = ONE.then(plainTag(0, 0, 2), update(0, 0, 2), update(0, 0, UNSTICK));
        answers(unstuck.then(edit(0, 0, 2)), commit(0, 0), 1);
        Story another = ONE.then(plainTag(0, 0, 2), update(1, 0, 2), edit(0, 0, 2));
        answers(another, commit(0, 0), 1);
    }

    private static void staleAdded() {
        sentence("STALE, when the entry is ADDED and the selected revision is there and not dead");
        refuses(ONE.then(add(1, 0, 1)), commit(1, 0), STALE);
        refuses(ONE.then(add(1, 0, 2)), commit(1, 0), STALE);
        refuses(NEW.then(bring(0, 1), add(1, 0, 2)), commit(1, 0), STALE);
        refuses(DEAD.then(add(0, 0, 1), commit(0, 0), add(1, 0, 2)), commit(1, 0), STALE);
        Story later = NEW.then(add(1, 0, 2), add(0, 0, 1), commit(0, 0));
        refuses(later, commit(1, 0), STALE);
        Story point = BRANCHED.then(add(2, 1, 2), update(2, 1, 0), add(0, 1, 1), commit(0, 1),
            branchTag(0, 1, 0));
        refuses(point, commit(2, 1), STALE);
        Story head = BRANCHED.then(add(2, 1, 2), update(2, 1, 0), add(0, 1, 3), update(0, 1, 0),
            commit(0, 1));
        refuses(head, commit(2, 1), STALE);
    }

    private static void addedUpToDate() {
        sentence("not STALE when the selected revision is none or dead");
        answers(NEW.then(add(1, 0, 1)), commit(1, 0), 0);
        answers(DEAD.then(add(1, 0, 1)), commit(1, 0), 2);
        Story notGiven = BRANCHED.then(bring(1, 1), add(1, 1, 2), update(1, 1, 0));
        answers(notGiven, commit(1, 1), 2);
        Story deadOnABranch = BRANCHED.then(remove(1, 0), commit(1, 0), add(1, 0, 2));
        answers(deadOnABranch, commit(1, 0), 2);
        Story deadTrunkOnly = ONE.then(branchTag(0, 0, 0), remove(0, 0), commit(0, 0),
            add(0, 0, 2));
        answers(deadTrunkOnly, commit(0, 0), 2);
    }

    private static void staleRevision() {
        sentence("STALE, when the entry is a revision but not the selected one");
        refuses(BEHIND, commit(1, 0), STALE);
        refuses(BEHIND.then(edit(1, 0, 9)), commit(1, 0), STALE);
        refuses(BEHIND.then(remove(1, 0)), commit(1, 0), STALE);
        Story dead = ONE.then(update(1, 0, NONE), remove(0, 0), commit(0, 0), edit(1, 0, 9));
        refuses(dead, commit(1, 0), STALE);
        refuses(dead.then(remove(1, 0)), commit(1, 0), STALE);
        Story newerThanSelected = ONE.then(branchTag(0, 0, 0), edit(0, 0, 2), commit(0, 0),
            remove(0, 0), update(0, 0, 0));
        answers(newerThanSelected, entry(0, 0), 1);
        answers(newerThanSelected, selected(0, 0), 0);
        refuses(newerThanSelected, commit(0, 0), STALE);
        Story vendor = NEW.then(bring(0, 1), update(0, 0, NONE), edit(0, 0, 2));
        refuses(vendor.then(bring(0, 1)), commit(0, 0), STALE);
        Story trunkTookOver = vendor.then(update(1, 0, NONE), edit(1, 0, 3), commit(1, 0));
        refuses(trunkTookOver, commit(0, 0), STALE);
        Story branch = BRANCHED.then(update(2, 0, 0), edit(2, 0, 2), commit(2, 0), edit(1, 0, 3));
        refuses(branch, commit(1, 0), STALE);
    }

    private static void revisionUpToDate() {
        sentence("not STALE when the entry is the selected revision");
        answers(BEHIND.then(edit(0, 0, 9)), commit(0, 0), 2);
        answers(BEHIND.then(remove(0, 0)), commit(0, 0), 2);
        answers(BEHIND.then(update(1, 0, NONE), edit(1, 0, 9)), commit(1, 0), 2);
        Story trunkMovedOn = BRANCHED.then(edit(0, 0, 2), commit(0, 0), edit(1, 0, 3));
        answers(trunkMovedOn, commit(1, 0), 2);
        Story branchMovedOn = BRANCHED.then(edit(1, 0, 2), commit(1, 0), edit(0, 0, 3));
        answers(branchMovedOn, commit(0, 0), 2);
        answers(ONE.then(bring(0, 7), edit(0, 0, 2)), commit(0, 0), 2);
        Story removedAtThePoint = BRANCHED.then(remove(1, 0));
        answers(removedAtThePoint, commit(1, 0), 1);
    }

    private static void unchanged() {
        sentence("UNCHANGED, when the entry is a revision, neither removed nor modified");
        refuses(ONE, commit(0, 0), UNCHANGED);
        refuses(ONE.then(edit(0, 0, 1)), commit(0, 0), UNCHANGED);
        refuses(ONE.then(edit(0, 0, 2), edit(0, 0, 1)), commit(0, 0), UNCHANGED);
        refuses(ONE.then(update(1, 0, NONE)), commit(1, 0), UNCHANGED);
        refuses(BRANCHED, commit(1, 0), UNCHANGED);
        refuses(NEW.then(add(0, 0, 0), commit(0, 0)), commit(0, 0), UNCHANGED);
        refuses(NEW.then(bring(0, 1), update(0, 0, NONE)), commit(0, 0), UNCHANGED);
        Story mergedToTheSame = ONE.then(update(1, 0, NONE), edit(0, 0, 2), commit(0, 0),
            edit(1, 0, 2), update(1, 0, NONE));
        refuses(mergedToTheSame, commit(1, 0), UNCHANGED);
    }

    private static void modified() {
        sentence("MODIFIED when its local text is not that of its revision");
        Story two = NEW.then(add(0, 0, text(1, 2)), commit(0, 0));
        for (long text : new long[] {0, 1, 2, text(2, 1), text(1, 3), text(1, 2, 1)}) {
            answers(two.then(edit(0, 0, text)), commit(0, 0), 1);
        }
        Story empty = NEW.then(add(0, 0, 0), commit(0, 0));
        answers(empty.then(edit(0, 0, 1)), commit(0, 0), 1);
        Story longest = NEW.then(add(0, 0, lines(MAX_LINES)), commit(0, 0));
        answers(longest.then(edit(0, 0, lines(MAX_LINES) - 1)), commit(0, 0), 1);
        answers(longest.then(edit(0, 0, lines(MAX_LINES) + (1L << 55))), commit(0, 0), 1);
    }

    private static void marked() {
        sentence("MARKED, when the local text has a mark");
        for (int mark = 17; mark <= 19; mark++) {
            refuses(ONE.then(edit(0, 0, mark)), commit(0, 0), MARKED);
            refuses(ONE.then(edit(0, 0, text(mark, 1))), commit(0, 0), MARKED);
            refuses(ONE.then(edit(0, 0, text(1, mark))), commit(0, 0), MARKED);
            refuses(NEW.then(add(0, 0, 1), edit(0, 0, mark)), commit(0, 0), MARKED);
            refuses(BRANCHED.then(edit(1, 0, mark)), commit(1, 0), MARKED);
            Story notGiven = BRANCHED.then(add(1, 1, 1), update(1, 1, 0), edit(1, 1, mark));
            refuses(notGiven, commit(1, 1), MARKED);
        }
        answers(ONE.then(edit(0, 0, 16)), commit(0, 0), 1);
        answers(ONE.then(edit(0, 0, 17), edit(0, 0, 2)), commit(0, 0), 1);
        Story overlap = BEHIND.then(edit(1, 0, 9), update(1, 0, NONE));
        refuses(overlap, commit(1, 0), MARKED);
    }

    private static void removedHasNoMarks() {
        sentence("a removed entry has no local text that could be marked");
        Story removed = ONE.then(edit(0, 0, 17), remove(0, 0));
        answers(removed, commit(0, 0), 1);
        answers(removed.then(commit(0, 0)), content(0, 1), 1);
    }

    private static void noEntryBeforeSticky() {
        sentence("NONE before STICKY and FULL");
        Story plain = ONE.then(plainTag(0, 0, 0), update(1, 1, 0));
        refuses(plain, commit(1, 1), NONE);
        refuses(FILLED, commit(1, 0), NONE);
        refuses(plain, commit(3, 0), NONE);
    }

    private static void stickyBeforeTheOthers() {
        sentence("STICKY before STALE, UNCHANGED, MARKED and FULL");
        Story moved = ONE.then(plainTag(0, 0, 0), update(1, 0, 0), edit(0, 0, 2), commit(0, 0),
            plainTag(0, 0, 0));
        answers(moved, selected(1, 0), 1);
        refuses(moved, commit(1, 0), STICKY);
        refuses(moved.then(edit(1, 0, 17)), commit(1, 0), STICKY);
        Story givenLater = ONE.then(plainTag(0, 0, 0), add(1, 1, 5), update(1, 1, 0),
            add(0, 1, 6), commit(0, 1), plainTag(0, 1, 0));
        answers(givenLater, selected(1, 1), 0);
        refuses(givenLater, commit(1, 1), STICKY);
        Story plain = ONE.then(plainTag(0, 0, 0), update(0, 0, 0));
        refuses(plain, commit(0, 0), STICKY);
        refuses(plain.then(edit(0, 0, 17)), commit(0, 0), STICKY);
        Story filled = FILLED.then(plainTag(0, 0, 0), update(0, 0, 0));
        refuses(filled.then(edit(0, 0, 9)), commit(0, 0), STICKY);
        refuses(filled.then(edit(0, 0, 17)), commit(0, 0), STICKY);
        refuses(filled.then(remove(0, 0)), commit(0, 0), STICKY);
    }

    private static void staleBeforeTheOthers() {
        sentence("STALE before UNCHANGED, MARKED and FULL");
        refuses(BEHIND, commit(1, 0), STALE);
        refuses(BEHIND.then(edit(1, 0, 17)), commit(1, 0), STALE);
        refuses(ONE.then(add(1, 0, 2), edit(1, 0, 17)), commit(1, 0), STALE);
        Story filled = grown(ONE.then(update(1, 0, NONE)), 0, 0, MAX_REVISIONS);
        refuses(filled, commit(1, 0), STALE);
        refuses(filled.then(edit(1, 0, 9)), commit(1, 0), STALE);
        refuses(filled.then(edit(1, 0, 17)), commit(1, 0), STALE);
        refuses(filled.then(remove(1, 0)), commit(1, 0), STALE);
        refuses(filled.then(add(2, 0, 2)), commit(2, 0), STALE);
    }

    private static void unchangedAndMarkedBeforeFull() {
        sentence("UNCHANGED and MARKED before FULL");
        refuses(FILLED, commit(0, 0), UNCHANGED);
        refuses(FILLED.then(edit(0, 0, 17)), commit(0, 0), MARKED);
        Story fiveBranches = ONE.then(branchTag(0, 0, 0), branchTag(0, 0, 1), branchTag(0, 0, 2),
            branchTag(0, 0, 3), bring(0, 2), add(0, 1, 1), commit(0, 1), branchTag(0, 1, 4),
            add(1, 0, 3), update(1, 0, 4));
        refuses(fiveBranches.then(edit(1, 0, 18)), commit(1, 0), MARKED);
        refuses(fiveBranches, commit(1, 0), FULL);
    }

    private static void newRevision() {
        sentence("The new revision has the local text; the entry is the new revision then");
        for (long text : new long[] {0, 2, text(1, 1), lines(MAX_LINES)}) {
            Story story = ONE.then(edit(0, 0, text), commit(0, 0));
            answers(story, revisions(0), 2);
            answers(story, content(0, 1), text);
            answers(story, content(0, 0), 1);
            answers(story, dead(0, 1), NO);
            dueCopy(story, 0, 0, 1, NO, text);
            answers(story, sticky(0, 0), NONE);
            dueNumber(story, 0, 1, 1, 2);
        }
        Story branch = BRANCHED.then(edit(1, 0, 2), commit(1, 0));
        dueCopy(branch, 1, 0, 1, NO, 2);
        dueCopy(branch, 0, 0, 0, NO, 1);
        answers(branch, sticky(1, 0), 0);
        answers(branch, selected(1, 0), 1);
        answers(branch, selected(0, 0), 0);
        dueNumber(branch, 0, 1, 1, 1, 2, 1);
    }

    private static void removedRevision() {
        sentence("that of a removed entry is dead, and has the text of the entry's revision");
        Story story = ONE.then(edit(0, 0, 9), remove(0, 0), commit(0, 0));
        answers(story, dead(0, 1), YES);
        answers(story, dead(0, 0), NO);
        answers(story, content(0, 1), 1);
        dueCopy(story, 0, 0, NONE, NO, NONE);
        answers(story, selected(0, 0), 1);
        Story branch = BRANCHED.then(edit(1, 0, 2), commit(1, 0), remove(1, 0), commit(1, 0));
        answers(branch, dead(0, 2), YES);
        answers(branch, content(0, 2), 2);
        dueCopy(branch, 1, 0, NONE, NO, NONE);
        answers(branch, sticky(1, 0), 0);
        dueNumber(branch, 0, 2, 1, 1, 2, 2);
        answers(branch, selected(0, 0), 0);
    }

    private static void fileIsMade() {
        sentence("when the file is not there, it is made, with trunk as default");
        Story story = NEW.then(add(2, 3, 5), commit(2, 3));
        answers(story, revisions(3), 1);
        answers(story, standard(3), 0);
        dueNumber(story, 3, 0, 1, 1);
        answers(story, revisions(2), 0);
    }

    private static void fileIsMadeUnderAStickyTag() {
        sentence("and under a sticky tag it gets a dead revision 1.1 with the empty text");
        Story added = BRANCHED.then(add(1, 2, text(5, 6)), update(1, 2, 0));
        answers(added, commit(1, 2), 1);
        Story story = added.then(commit(1, 2));
        answers(story, revisions(2), 2);
        answers(story, dead(2, 0), YES);
        answers(story, content(2, 0), 0);
        answers(story, dead(2, 1), NO);
        answers(story, content(2, 1), text(5, 6));
        dueNumber(story, 2, 0, 1, 1);
        dueNumber(story, 2, 1, 1, 1, 2, 1);
        answers(story, standard(2), 0);
        answers(story, named(2, 0), 1);
        dueCopy(story, 1, 2, 1, NO, text(5, 6));
        answers(story, selected(0, 2), 0);
        answers(story, update(0, 2, NONE), 0);
        answers(story.then(add(0, 2, 7)), commit(0, 2), 2);
    }

    private static void stickyTagIsGiven() {
        sentence("a new branch whose point is the head of the trunk");
        Story two = grown(BRANCHED.then(add(2, 1, 1), commit(2, 1)), 2, 1, 2);
        Story story = two.then(add(1, 1, 5), update(1, 1, 0), commit(1, 1));
        answers(story, named(1, 0), 1);
        dueNumber(story, 1, 2, 1, 2, 2, 1);
        dueCopy(story, 2, 1, 1, NO, text(15, 2));
        Story deadHead = two.then(remove(2, 1), commit(2, 1), add(1, 1, 5), update(1, 1, 0),
            commit(1, 1));
        dueNumber(deadHead, 1, 3, 1, 3, 2, 1);
        Story vendor = BRANCHED.then(bring(1, 1), bring(1, 2), add(1, 1, 5), update(1, 1, 0),
            commit(1, 1));
        dueNumber(vendor, 1, 3, 1, 1, 2, 1);
        answers(vendor, named(1, 0), 2);
        answers(vendor, kept(1, 3), 2);
        answers(BRANCHED.then(edit(1, 0, 2), commit(1, 0)), named(0, 0), 1);
    }

    private static void defaultBranch() {
        sentence("without a sticky tag on the trunk, whereupon the trunk is the default branch");
        Story vendor = NEW.then(bring(0, 1), update(0, 0, NONE), edit(0, 0, 2));
        answers(vendor, standard(0), 1);
        answers(vendor.then(commit(0, 0)), standard(0), 0);
        dueNumber(vendor.then(commit(0, 0)), 0, 2, 1, 2);
        answers(vendor.then(remove(0, 0), commit(0, 0)), standard(0), 0);
        Story sticky = NEW.then(bring(0, 1), update(0, 0, NONE), branchTag(0, 0, 0),
            update(0, 0, 0), edit(0, 0, 2), commit(0, 0));
        answers(sticky, standard(0), 1);
        answers(sticky, selected(1, 0), 1);
        answers(ONE.then(edit(0, 0, 2), commit(0, 0)), standard(0), 0);
        Story refused = NEW.then(bring(0, 1), update(0, 0, NONE));
        refuses(refused, commit(0, 0), UNCHANGED);
    }
}
