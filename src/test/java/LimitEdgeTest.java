import java.util.function.IntFunction;

/** At most 24 revisions, at most five branches, and the branches' numbers and magic numbers. */
public final class LimitEdgeTest extends Stories {
    /** Client 1 is on the branch of tag 0 in file 0; tag 3 is a branch tag, of file 1 only. */
    private static final Story BRANCHED = ONE.then(branchTag(0, 0, 0), update(1, 0, 0),
        add(0, 1, 1), commit(0, 1), branchTag(0, 1, 3));

    public static void main(String[] args) {
        revisionsByCommit();
        revisionsByCommitOfARemovedEntry();
        revisionsByCommitOfAnAddedEntry();
        revisionsByBring();
        filesAreFullByThemselves();
        branchesByTag();
        branchesByCommit();
        branchesByBring();
        bothLimits();
        fullBranchesGoOn();
        branchNumbers();
        magicNumbersOfOnePoint();
        magicNumbersWithTheVendorBranch();
        magicNumbersOfSeveralPoints();
        magicNumbersByCommit();
        end();
    }

    /** The call must make the 23rd and 24th revision of file 0, and be refused as the 25th. */
    private static void makesTheLast(IntFunction<Story> withRevisions, Call call) {
        for (int count = MAX_REVISIONS - 2; count <= MAX_REVISIONS; count++) {
            Story story = withRevisions.apply(count);
            answers(story, revisions(0), count);
            if (count < MAX_REVISIONS) {
                answers(story, call, count);
                answers(story.then(call), revisions(0), count + 1);
            } else {
                refuses(story, call, FULL);
            }
        }
    }

    private static void revisionsByCommit() {
        sentence("FULL, when more revisions would be needed than there may be: commit");
        makesTheLast(count -> grown(ONE, 0, 0, count).then(edit(0, 0, 9)), commit(0, 0));
        makesTheLast(count -> grown(BRANCHED, 0, 0, count).then(edit(1, 0, 9)), commit(1, 0));
        makesTheLast(count -> grown(BRANCHED, 1, 0, count).then(edit(1, 0, 9)), commit(1, 0));
        makesTheLast(count -> grown(BRANCHED, 1, 0, count).then(edit(0, 0, 9)), commit(0, 0));
    }

    private static void revisionsByCommitOfARemovedEntry() {
        sentence("FULL, when more revisions would be needed than there may be: a removed entry");
        makesTheLast(count -> grown(ONE, 0, 0, count).then(remove(0, 0)), commit(0, 0));
        makesTheLast(count -> grown(BRANCHED, 0, 0, count).then(remove(1, 0)), commit(1, 0));
    }

    private static void revisionsByCommitOfAnAddedEntry() {
        sentence("FULL, when more revisions would be needed than there may be: an ADDED entry");
        makesTheLast(count -> grown(ONE, 0, 0, count - 1).then(remove(0, 0), commit(0, 0),
            add(1, 0, 9)), commit(1, 0));
        Story deadBranch = BRANCHED.then(remove(1, 0), commit(1, 0), add(1, 0, 9));
        makesTheLast(count -> grown(deadBranch, 0, 0, count), commit(1, 0));
        makesTheLast(count -> grown(BRANCHED, 0, 0, count).then(add(2, 0, 9), update(2, 0, 3)),
            commit(2, 0));
    }

    private static void revisionsByBring() {
        sentence("FULL, when more revisions would be needed than there may be: bring");
        makesTheLast(count -> grown(ONE, 0, 0, count), bring(0, 9));
        Story brought = NEW.then(bring(0, 1), update(0, 0, NONE));
        makesTheLast(count -> grown(brought, 0, 0, count), bring(0, 9));
        makesTheLast(count -> {
            Story story = NEW;
            for (int r = 1; r < count; r++) {
                story = story.then(bring(0, 1));
            }
            return story;
        }, bring(0, 1));
    }

    private static void filesAreFullByThemselves() {
        sentence("a FILE has at most 24 REVISIONS");
        Story filled = grown(ONE, 0, 0, MAX_REVISIONS);
        answers(filled, bring(1, 1), 1);
        answers(filled.then(add(0, 1, 1)), commit(0, 1), 0);
        answers(filled, branchTag(0, 0, 0), YES);
        answers(filled, plainTag(0, 0, 0), YES);
        answers(filled, update(1, 0, NONE), 2);
    }

    /** Client 0 makes so many branches of revision 0 of file 0 by the first tags. */
    private static Story tagged(int count) {
        Story story = ONE;
        for (int tag = 0; tag < count; tag++) {
            story = story.then(branchTag(0, 0, tag));
        }
        return story;
    }

    private static void branchesByTag() {
        sentence("BRANCHES, at most five: tag");
        for (int tag = 0; tag < TAGS; tag++) {
            answers(tagged(tag), branchTag(0, 0, tag), YES);
            answers(tagged(tag + 1), named(0, tag), tag + 1);
        }
        answers(tagged(3).then(bring(0, 2)), branchTag(0, 0, 3), YES);
        refuses(tagged(4).then(bring(0, 2)), branchTag(0, 0, 4), NO);
    }

    /** The story, and client 1 having added file 0 under tag 4, a branch tag of file 1 only. */
    private static Story underTag4(Story story) {
        return story.then(add(0, 1, 1), commit(0, 1), branchTag(0, 1, 4), add(1, 0, 3),
            update(1, 0, 4));
    }

    private static void branchesByCommit() {
        sentence("FULL, when more branches would be needed than there may be: commit");
        answers(underTag4(tagged(3)), commit(1, 0), 1);
        answers(underTag4(tagged(4)), commit(1, 0), 1);
        answers(underTag4(tagged(4)).then(commit(1, 0)), named(0, 4), 5);
        answers(underTag4(tagged(3).then(bring(0, 2))), commit(1, 0), 2);
        refuses(underTag4(tagged(4).then(bring(0, 2))), commit(1, 0), FULL);
        Story stillFree = underTag4(tagged(4)).then(bring(0, 2));
        refuses(stillFree, commit(1, 0), FULL);
    }

    private static void branchesByBring() {
        sentence("FULL, when more branches would be needed than there may be: bring");
        answers(tagged(3), bring(0, 2), 1);
        answers(tagged(4), bring(0, 2), 1);
        refuses(tagged(5), bring(0, 2), FULL);
        refuses(tagged(5), bring(0, 17), NONE);
        answers(tagged(4).then(bring(0, 2)), bring(0, 3), 2);
        answers(tagged(5), bring(1, 2), 1);
    }

    private static void bothLimits() {
        sentence("FULL, when more revisions or branches would be needed");
        refuses(grown(tagged(5), 0, 0, MAX_REVISIONS), bring(0, 2), FULL);
        refuses(grown(tagged(5), 0, 0, MAX_REVISIONS - 1), bring(0, 2), FULL);
        refuses(grown(tagged(4), 0, 0, MAX_REVISIONS), bring(0, 2), FULL);
        answers(grown(tagged(4), 0, 0, MAX_REVISIONS - 1), bring(0, 2), MAX_REVISIONS - 1);
        Story both = grown(tagged(4).then(bring(0, 2)), 0, 0, MAX_REVISIONS);
        refuses(underTag4(both), commit(1, 0), FULL);
        refuses(both, branchTag(0, 0, 4), NO);
    }

    private static void fullBranchesGoOn() {
        sentence("a branch that is there needs no new one");
        Story five = underTag4(tagged(4)).then(commit(1, 0));
        for (int tag = 0; tag < TAGS; tag++) {
            Story story = five.then(update(2, 0, tag), edit(2, 0, 9));
            answers(story, commit(2, 0), 2);
        }
        answers(five.then(edit(0, 0, 9)), commit(0, 0), 2);
        refuses(five, bring(0, 9), FULL);
    }

    private static void branchNumbers() {
        sentence("others, numbered from 1 on as they were made");
        Story vendorFirst = NEW.then(bring(0, 1), update(0, 0, NONE), branchTag(0, 0, 2),
            branchTag(0, 0, 0));
        answers(vendorFirst, standard(0), 1);
        answers(vendorFirst, named(0, 2), 2);
        answers(vendorFirst, named(0, 0), 3);
        Story vendorBetween = ONE.then(branchTag(0, 0, 4), bring(0, 2), branchTag(0, 0, 1));
        answers(vendorBetween, named(0, 4), 1);
        answers(vendorBetween, named(0, 1), 3);
        Story byCommit = underTag4(ONE.then(branchTag(0, 0, 1))).then(commit(1, 0),
            branchTag(0, 0, 0));
        answers(byCommit, named(0, 1), 1);
        answers(byCommit, named(0, 4), 2);
        answers(byCommit, named(0, 0), 3);
        answers(byCommit, named(1, 4), 1);
    }

    /** The story, and a first revision on the branch of the tag: its number must be this. */
    private static void dueBranch(Story story, int tag, int... parts) {
        Story longer = story.then(update(2, 0, tag), edit(2, 0, text(14, tag + 1)), commit(2, 0));
        dueNumber(longer, 0, longer.told().entry(2, 0), parts);
    }

    private static void magicNumbersOfOnePoint() {
        sentence("another branch gets the least of 2, 4, 6, .. that no branch with that point has");
        for (int tag = 0; tag < TAGS; tag++) {
            dueBranch(tagged(TAGS), tag, 1, 1, 2 + 2 * tag, 1);
        }
    }

    private static void magicNumbersWithTheVendorBranch() {
        sentence("The VENDOR branch has the magic number 1 and the point 1.1");
        for (int before = 0; before < TAGS; before++) {
            Story story = tagged(before).then(bring(0, 2));
            dueNumber(story, 0, 1, 1, 1, 1, 1);
            for (int tag = before; tag < TAGS - 1; tag++) {
                story = story.then(branchTag(0, 0, tag));
            }
            for (int tag = 0; tag < TAGS - 1; tag++) {
                dueBranch(story, tag, 1, 1, 2 + 2 * tag, 1);
            }
        }
        Story fromTheHead = grown(ONE, 0, 0, 3).then(bring(0, 2));
        dueNumber(fromTheHead, 0, 3, 1, 1, 1, 1);
        Story onTheVendorBranch = NEW.then(bring(0, 1), bring(0, 2), update(0, 0, NONE),
            branchTag(0, 0, 0), branchTag(0, 0, 1));
        dueBranch(onTheVendorBranch, 0, 1, 1, 1, 2, 2, 1);
        dueBranch(onTheVendorBranch, 1, 1, 1, 1, 2, 4, 1);
    }

    private static void magicNumbersOfSeveralPoints() {
        sentence("no branch with the same point has");
        Story one = ONE.then(update(1, 0, NONE), branchTag(0, 0, 0));
        Story two = grown(one, 0, 0, 2).then(branchTag(0, 0, 1), branchTag(1, 0, 2),
            branchTag(0, 0, 3));
        dueBranch(two, 0, 1, 1, 2, 1);
        dueBranch(two, 1, 1, 2, 2, 1);
        dueBranch(two, 2, 1, 1, 4, 1);
        dueBranch(two, 3, 1, 2, 4, 1);
        Story nested = ONE.then(branchTag(0, 0, 0), branchTag(0, 0, 1), update(0, 0, 1),
            edit(0, 0, 2), commit(0, 0), branchTag(0, 0, 2), branchTag(0, 0, 3));
        dueBranch(nested, 0, 1, 1, 2, 1);
        dueBranch(nested, 2, 1, 1, 4, 1, 2, 1);
        dueBranch(nested, 3, 1, 1, 4, 1, 4, 1);
    }

    private static void magicNumbersByCommit() {
        sentence("When the sticky tag is not given to the file, it is given to it");
        for (int before = 0; before < TAGS; before++) {
            Story story = underTag4(tagged(before)).then(commit(1, 0));
            dueNumber(story, 0, 1, 1, 1, 2 + 2 * before, 1);
            answers(story, named(0, 4), before + 1);
        }
        Story again = underTag4(tagged(1)).then(commit(1, 0), branchTag(0, 0, 1));
        dueBranch(again, 1, 1, 1, 6, 1);
    }
}
