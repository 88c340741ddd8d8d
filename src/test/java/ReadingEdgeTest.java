/** The boundary cases of promises 9 to 20, which change nothing, and of the difference. */
public final class ReadingEdgeTest extends Stories {
    private static final Story DEAD = ONE.then(remove(0, 0), commit(0, 0));

    public static void main(String[] args) {
        entries();
        removedEntries();
        localTexts();
        selectedWithoutAStickyTag();
        selectedByATag();
        stickyTags();
        revisionCounts();
        numberParts();
        numberOfNestedBranches();
        numberRefuses();
        contents();
        deadRevisions();
        keptHeadOfTheTrunk();
        keptOnTheTrunk();
        keptOnBranches();
        sizesOfDifferences();
        names();
        standards();
        readingsChangeNothing();
        theLastOf512Calls();
        end();
    }

    private static void entries() {
        sentence("entry: NONE, ADDED, or the number of its revision");
        answers(NEW, entry(0, 0), NONE);
        answers(NEW.then(add(0, 0, 1)), entry(0, 0), ADDED);
        answers(ONE, entry(0, 0), 0);
        answers(ONE, entry(1, 0), NONE);
        answers(ONE, entry(0, 1), NONE);
        answers(ONE.then(edit(0, 0, 2)), entry(0, 0), 0);
        answers(ONE.then(remove(0, 0)), entry(0, 0), 0);
        answers(DEAD, entry(0, 0), NONE);
        answers(grown(ONE, 0, 0, MAX_REVISIONS), entry(0, 0), MAX_REVISIONS - 1);
    }

    private static void removedEntries() {
        sentence("removed: whether a client's entry of a file is a removed one");
        answers(NEW, removed(0, 0), NO);
        answers(NEW.then(add(0, 0, 1)), removed(0, 0), NO);
        answers(NEW.then(add(0, 0, 1), remove(0, 0)), removed(0, 0), NO);
        answers(ONE, removed(0, 0), NO);
        answers(ONE.then(update(1, 0, NONE), remove(0, 0)), removed(0, 0), YES);
        answers(ONE.then(update(1, 0, NONE), remove(0, 0)), removed(1, 0), NO);
        answers(DEAD, removed(0, 0), NO);
        answers(DEAD.then(add(0, 0, 1)), removed(0, 0), NO);
        Story dropped = ONE.then(update(1, 0, NONE), remove(0, 0), commit(0, 0), remove(1, 0),
            update(1, 0, NONE));
        answers(dropped, removed(1, 0), NO);
        Story again = dropped.then(add(0, 0, 3), commit(0, 0), update(1, 0, NONE));
        dueCopy(again, 1, 0, 2, NO, 3);
    }

    private static void localTexts() {
        sentence("local: NONE when it has none");
        answers(NEW, local(0, 0), NONE);
        answers(NEW.then(add(0, 0, 0)), local(0, 0), 0);
        answers(NEW.then(add(0, 0, 1), remove(0, 0)), local(0, 0), NONE);
        answers(ONE, local(0, 0), 1);
        answers(ONE, local(1, 0), NONE);
        answers(ONE, local(0, 1), NONE);
        answers(ONE.then(remove(0, 0)), local(0, 0), NONE);
        answers(DEAD, local(0, 0), NONE);
        answers(ONE.then(edit(0, 0, repeated(19, MAX_LINES))), local(0, 0),
            repeated(19, MAX_LINES));
    }

    private static void selectedWithoutAStickyTag() {
        sentence("none, if the file is not there; the head of the file's default branch");
        answers(NEW, selected(0, 0), NONE);
        answers(NEW.then(add(0, 0, 1)), selected(0, 0), NONE);
        answers(ONE, selected(0, 0), 0);
        answers(ONE, selected(2, 0), 0);
        answers(ONE, selected(0, 1), NONE);
        answers(DEAD, selected(0, 0), 1);
        answers(ONE.then(bring(0, 2)), selected(0, 0), 0);
        Story vendor = NEW.then(bring(0, 1), bring(0, 2));
        answers(vendor, selected(0, 0), 2);
        Story trunk = vendor.then(update(0, 0, NONE), edit(0, 0, 3), commit(0, 0), bring(0, 4));
        answers(trunk, selected(1, 0), 3);
        Story last = grown(ONE, 0, 0, MAX_REVISIONS);
        answers(last, selected(1, 0), MAX_REVISIONS - 1);
    }

    private static void selectedByATag() {
        sentence("with one that is not given to the file none, with a plain one, with a branch tag");
        Story tagged = grown(ONE.then(plainTag(0, 0, 0), branchTag(0, 0, 4)), 0, 0, 3);
        answers(tagged.then(update(1, 1, 0)), selected(1, 1), NONE);
        answers(tagged.then(update(1, 1, 4)), selected(1, 1), NONE);
        Story there = tagged.then(bring(1, 1));
        answers(there.then(update(1, 1, 0)), selected(1, 1), NONE);
        answers(there.then(update(1, 1, 4)), selected(1, 1), NONE);
        answers(tagged.then(update(1, 0, 0)), selected(1, 0), 0);
        answers(tagged.then(update(1, 0, 0), plainTag(0, 0, 0)), selected(1, 0), 2);
        Story branch = tagged.then(update(1, 0, 4));
        answers(branch, selected(1, 0), 0);
        answers(branch.then(edit(1, 0, 9), commit(1, 0)), selected(1, 0), 3);
        answers(branch.then(edit(1, 0, 9), commit(1, 0)), selected(0, 0), 2);
        answers(branch.then(remove(1, 0), commit(1, 0)), selected(1, 0), 3);
        Story twice = branch.then(edit(1, 0, 9), commit(1, 0), edit(1, 0, 8), commit(1, 0));
        answers(twice, selected(1, 0), 4);
    }

    private static void stickyTags() {
        sentence("sticky: NONE when there is none");
        answers(NEW, sticky(0, 0), NONE);
        Story tagged = ONE.then(plainTag(0, 0, 0), branchTag(0, 0, 4));
        answers(tagged, sticky(0, 0), NONE);
        Story stuck = tagged.then(update(0, 0, 4), update(0, 1, 0));
        answers(stuck, sticky(0, 0), 4);
        answers(stuck, sticky(0, 1), 0);
        answers(stuck, sticky(1, 0), NONE);
        answers(stuck, sticky(0, 2), NONE);
        answers(stuck.then(remove(0, 0)), sticky(0, 0), 4);
        answers(stuck.then(remove(0, 0), commit(0, 0)), sticky(0, 0), 4);
        answers(stuck.then(add(0, 1, 1)), sticky(0, 1), 0);
        answers(stuck.then(update(0, 0, UNSTICK)), sticky(0, 0), NONE);
    }

    private static void revisionCounts() {
        sentence("revisions: how many a file has; 0 when it is not there");
        answers(NEW, revisions(0), 0);
        answers(NEW.then(add(0, 0, 1)), revisions(0), 0);
        answers(ONE, revisions(0), 1);
        answers(ONE, revisions(1), 0);
        answers(DEAD, revisions(0), 2);
        answers(NEW.then(bring(0, 1)), revisions(0), 2);
        answers(grown(ONE, 0, 0, MAX_REVISIONS - 1), revisions(0), MAX_REVISIONS - 1);
        answers(grown(ONE, 0, 0, MAX_REVISIONS), revisions(0), MAX_REVISIONS);
    }

    private static void numberParts() {
        sentence("number: part i (from 0) of the dotted number; 0 behind its end");
        answers(ONE, number(0, 0, 0), 1);
        answers(ONE, number(0, 0, 1), 1);
        for (int i : new int[] {2, 3, 4, 12, 100, Integer.MAX_VALUE - 1, Integer.MAX_VALUE}) {
            answers(ONE, number(0, 0, i), 0);
        }
        dueNumber(DEAD, 0, 1, 1, 2);
        Story vendor = NEW.then(bring(0, 1), bring(0, 2));
        dueNumber(vendor, 0, 0, 1, 1);
        dueNumber(vendor, 0, 1, 1, 1, 1, 1);
        dueNumber(vendor, 0, 2, 1, 1, 1, 2);
        for (int i : new int[] {4, 5, 6, 12, Integer.MAX_VALUE - 1, Integer.MAX_VALUE}) {
            answers(vendor, number(0, 2, i), 0);
        }
        dueNumber(grown(ONE, 0, 0, MAX_REVISIONS), 0, 23, 1, 24);
    }

    private static void numberOfNestedBranches() {
        sentence("that of the branch's point, then the magic number, then k");
        Story story = NEW.then(bring(0, 1), update(0, 0, NONE));
        for (int tag = 0; tag < 4; tag++) {
            story = story.then(branchTag(0, 0, tag), update(0, 0, tag), edit(0, 0, 2 + tag),
                commit(0, 0), edit(0, 0, 8 + tag), commit(0, 0));
        }
        dueNumber(story, 0, 2, 1, 1, 1, 1, 2, 1);
        dueNumber(story, 0, 3, 1, 1, 1, 1, 2, 2);
        dueNumber(story, 0, 4, 1, 1, 1, 1, 2, 2, 2, 1);
        dueNumber(story, 0, 7, 1, 1, 1, 1, 2, 2, 2, 2, 2, 2);
        dueNumber(story, 0, 9, 1, 1, 1, 1, 2, 2, 2, 2, 2, 2, 2, 2);
        answers(story, number(0, 9, 11), 2);
        answers(story, number(0, 9, 12), 0);
        answers(story, number(0, 9, 13), 0);
    }

    private static void numberRefuses() {
        sentence("number: NONE when there is no such file or revision, or i is below 0");
        for (int i : new int[] {-1, -2, Integer.MIN_VALUE}) {
            answers(ONE, number(0, 0, i), NONE);
            answers(NEW.then(bring(0, 1)), number(0, 1, i), NONE);
            answers(ONE, number(0, 1, i), NONE);
            answers(ONE, number(4, 0, i), NONE);
        }
        answers(ONE, number(0, 1, 0), NONE);
        answers(ONE, number(0, 1, Integer.MAX_VALUE), NONE);
        answers(ONE, number(0, -1, 0), NONE);
        answers(ONE, number(1, 0, 0), NONE);
    }

    private static void contents() {
        sentence("content: NONE when there is none");
        answers(NEW, content(0, 0), NONE);
        answers(NEW.then(add(0, 0, 1)), content(0, 0), NONE);
        answers(NEW.then(add(0, 0, 0), commit(0, 0)), content(0, 0), 0);
        answers(NEW.then(add(0, 0, 0), commit(0, 0)), content(0, 1), NONE);
        answers(ONE, content(0, 0), 1);
        answers(ONE, content(1, 0), NONE);
        answers(DEAD, content(0, 1), 1);
        Story longest = NEW.then(bring(0, repeated(16, MAX_LINES)));
        answers(longest, content(0, 0), repeated(16, MAX_LINES));
        answers(longest, content(0, 1), repeated(16, MAX_LINES));
    }

    private static void deadRevisions() {
        sentence("dead: whether revision r of a file is there and dead");
        answers(ONE, dead(0, 0), NO);
        answers(ONE.then(remove(0, 0)), dead(0, 0), NO);
        answers(DEAD, dead(0, 0), NO);
        answers(DEAD, dead(0, 1), YES);
        answers(DEAD, dead(0, 2), NO);
        answers(DEAD, dead(1, 1), NO);
        answers(DEAD.then(add(0, 0, 1), commit(0, 0)), dead(0, 1), YES);
        answers(DEAD.then(add(0, 0, 1), commit(0, 0)), dead(0, 2), NO);
        answers(NEW.then(bring(0, 0)), dead(0, 0), NO);
    }

    private static void keptHeadOfTheTrunk() {
        sentence("kept: for the head of the trunk the number of its lines");
        for (int count : new int[] {0, 1, 2, 11, MAX_LINES}) {
            answers(NEW.then(add(0, 0, lines(count)), commit(0, 0)), kept(0, 0), count);
            answers(ONE.then(edit(0, 0, text(2, 2)), commit(0, 0), edit(0, 0, lines(count)),
                commit(0, 0)), kept(0, 2), count);
        }
        answers(DEAD, kept(0, 1), 1);
        answers(NEW.then(bring(0, text(1, 2, 3)), bring(0, 4)), kept(0, 0), 3);
        Story branched = ONE.then(branchTag(0, 0, 0), update(0, 0, 0), edit(0, 0, 2), commit(0, 0));
        answers(branched, kept(0, 0), 1);
    }

    private static void keptOnTheTrunk() {
        sentence("kept: for another one of the trunk the size of the next one's text and its own");
        Story two = NEW.then(add(0, 0, text(1, 2, 3)), commit(0, 0), edit(0, 0, text(1, 3, 4, 5)),
            commit(0, 0));
        answers(two, kept(0, 0), 3);
        answers(two, kept(0, 1), 4);
        Story three = two.then(edit(0, 0, 0), commit(0, 0));
        answers(three, kept(0, 0), 3);
        answers(three, kept(0, 1), 4);
        answers(three, kept(0, 2), 0);
        answers(DEAD, kept(0, 0), 0);
        Story past = ONE.then(branchTag(0, 0, 0), update(1, 0, 0), edit(1, 0, text(7, 8, 9)),
            commit(1, 0), bring(0, text(6, 6)), edit(0, 0, text(1, 2)), commit(0, 0));
        answers(past, kept(0, 0), 1);
        Story farthest = NEW.then(add(0, 0, repeated(1, MAX_LINES)), commit(0, 0),
            edit(0, 0, repeated(2, MAX_LINES)), commit(0, 0));
        answers(farthest, kept(0, 0), 24);
    }

    private static void keptOnBranches() {
        sentence("kept: for the first one of another branch that of the branch's point and its own");
        Story branch = NEW.then(add(0, 0, text(1, 2)), commit(0, 0), branchTag(0, 0, 0),
            update(1, 0, 0), edit(0, 0, text(9, 9, 9)), commit(0, 0), edit(1, 0, text(1, 2, 3)),
            commit(1, 0));
        answers(branch, kept(0, 2), 1);
        sentence("kept: for a later one that of the one before it and its own");
        Story later = branch.then(edit(1, 0, 3), commit(1, 0), remove(1, 0), commit(1, 0));
        answers(later, kept(0, 2), 1);
        answers(later, kept(0, 3), 2);
        answers(later, kept(0, 4), 0);
        Story nested = branch.then(branchTag(1, 0, 1), update(1, 0, 1), edit(1, 0, text(3, 4)),
            commit(1, 0));
        answers(nested, kept(0, 3), 3);
        Story vendor = NEW.then(bring(0, text(1, 2)), bring(0, text(2, 1)), bring(0, 0));
        answers(vendor, kept(0, 1), 0);
        answers(vendor, kept(0, 2), 2);
        answers(vendor, kept(0, 3), 2);
        Story made = ONE.then(branchTag(0, 0, 0), add(1, 1, text(1, 2, 3)), update(1, 1, 0),
            commit(1, 1));
        answers(made, kept(1, 0), 0);
        answers(made, kept(1, 1), 3);
        answers(made.then(bring(1, text(1, 1))), kept(1, 2), 2);
    }

    private static void dueSize(long first, long second, int size) {
        answers(NEW.then(bring(0, first), bring(0, second)), kept(0, 2), size);
        answers(NEW.then(bring(0, second), bring(0, first)), kept(0, 2), size);
    }

    private static void sizesOfDifferences() {
        sentence("Its SIZE is the number of lines of both that are in no pair");
        dueSize(0, 0, 0);
        dueSize(0, 1, 1);
        dueSize(1, 1, 0);
        dueSize(1, 2, 2);
        dueSize(0, lines(MAX_LINES), 12);
        dueSize(lines(MAX_LINES), lines(MAX_LINES), 0);
        dueSize(lines(11), lines(MAX_LINES), 1);
        dueSize(repeated(1, MAX_LINES), repeated(2, MAX_LINES), 24);
        dueSize(repeated(1, MAX_LINES), repeated(1, 11), 1);
        dueSize(repeated(1, MAX_LINES), 1, 11);
        dueSize(1, text(1, 2, 3), 2);
        dueSize(3, text(1, 2, 3), 2);
        dueSize(text(1, 2), text(2, 1), 2);
        dueSize(text(1, 2, 3, 4), text(4, 1, 2, 3), 2);
        dueSize(text(1, 2, 3, 4), text(2, 3, 4, 1), 2);
        dueSize(text(1, 2, 3, 1, 2, 2, 1), text(3, 2, 1, 2, 1, 3), 5);
        dueSize(text(2, 3, 1, 1), text(1, 2, 3), 3);
        dueSize(lines(MAX_LINES), text(12, 11, 10, 9, 8, 7, 6, 5, 4, 3, 2, 1), 22);
        dueSize(lines(MAX_LINES), text(2, 3, 4, 5, 6, 7, 8, 9, 10, 11, 12, 1), 2);
    }

    private static void names() {
        sentence("named: a revision's number, or a branch's; NONE when it is not given to it");
        for (int tag = 0; tag < TAGS; tag++) {
            answers(NEW, named(0, tag), NONE);
            answers(ONE, named(0, tag), NONE);
            answers(ONE.then(plainTag(0, 0, tag)), named(0, tag), 0);
            answers(ONE.then(plainTag(0, 0, tag)), named(1, tag), NONE);
            answers(ONE.then(plainTag(0, 0, tag)), named(0, (tag + 1) % TAGS), NONE);
            answers(ONE.then(branchTag(0, 0, tag)), named(0, tag), 1);
            answers(ONE.then(branchTag(0, 0, tag)), named(1, tag), NONE);
        }
        Story last = grown(ONE, 0, 0, MAX_REVISIONS).then(plainTag(0, 0, 2));
        answers(last, named(0, 2), MAX_REVISIONS - 1);
        Story notGiven = ONE.then(branchTag(0, 0, 0), update(1, 1, 0));
        answers(notGiven, named(1, 0), NONE);
        answers(notGiven.then(add(1, 1, 1), commit(1, 1)), named(1, 0), 1);
    }

    private static void standards() {
        sentence("standard: NONE when the file is not there");
        answers(NEW, standard(0), NONE);
        answers(NEW.then(add(0, 0, 1)), standard(0), NONE);
        answers(ONE, standard(0), 0);
        answers(ONE, standard(1), NONE);
        answers(NEW.then(bring(0, 1)), standard(0), 1);
        answers(NEW.then(bring(0, 1), bring(0, 1)), standard(0), 1);
        answers(ONE.then(bring(0, 1)), standard(0), 0);
        answers(DEAD, standard(0), 0);
        Story trunk = NEW.then(bring(0, 1), update(0, 0, NONE), edit(0, 0, 2), commit(0, 0));
        answers(trunk, standard(0), 0);
        answers(trunk.then(bring(0, 3)), standard(0), 0);
    }

    private static void readingsChangeNothing() {
        sentence("Promises 9 to 20 tell of no change");
        Story story = grown(ONE.then(plainTag(0, 0, 0), branchTag(0, 0, 4), update(1, 0, 4),
            edit(1, 0, text(3, 1)), commit(1, 0)), 0, 0, 4);
        Story[] stories = {NEW, story};
        for (Story before : stories) {
            int none = before == NEW ? NONE : 0;
            refuses(before, entry(0, 1), NONE);
            refuses(before, removed(0, 0), NO);
            refuses(before, local(2, 0), NONE);
            refuses(before, selected(2, 1), NONE);
            refuses(before, sticky(0, 0), NONE);
            refuses(before, revisions(1), 0);
            refuses(before, number(0, 0, 2), none);
            refuses(before, content(1, 0), NONE);
            refuses(before, dead(0, 0), NO);
            refuses(before, kept(0, 0), before == NEW ? NONE : 1);
            refuses(before, named(0, 0), none);
            refuses(before, standard(0), none);
        }
    }

    private static void theLastOf512Calls() {
        sentence("An object is used for at most 512 calls");
        Story story = ONE;
        for (int i = ONE.length(); i < MAX_CALLS - 2; i++) {
            story = story.then(edit(0, 0, 2 + i % 2));
        }
        story = story.then(commit(0, 0));
        answers(story, content(0, 1), 3);
        answers(story, commit(0, 0), UNCHANGED);
        answers(story, bring(0, 4), 2);
        answers(story, update(1, 0, NONE), 2);
    }
}
