/** The boundary cases of promise 8, bring; its limits are in LimitEdgeTest. */
public final class BringEdgeTest extends Stories {
    public static void main(String[] args) {
        theFileIsMade();
        theNextOne();
        theVendorBranchIsMade();
        theFirstRevisionIsDead();
        noTextOrMarks();
        noneBeforeFull();
        sandboxesStay();
        end();
    }

    private static void theFileIsMade() {
        sentence("it is made, with 1.1 on the trunk and 1.1.1.1 on the vendor branch");
        for (int file = 0; file < FILES; file++) {
            for (long text : new long[] {0, 1, lines(MAX_LINES)}) {
                answers(NEW, bring(file, text), 1);
                Story story = NEW.then(bring(file, text));
                answers(story, revisions(file), 2);
                dueNumber(story, file, 0, 1, 1);
                dueNumber(story, file, 1, 1, 1, 1, 1);
                answers(story, content(file, 0), text);
                answers(story, content(file, 1), text);
                answers(story, dead(file, 0), NO);
                answers(story, dead(file, 1), NO);
                answers(story, standard(file), 1);
                answers(story, selected(0, file), 1);
                answers(story, revisions((file + 1) % FILES), 0);
            }
        }
    }

    private static void theNextOne() {
        sentence("Otherwise it is the next revision of the vendor branch (the default branch stays)");
        Story one = NEW.then(bring(0, 1));
        answers(one, bring(0, 1), 2);
        Story two = one.then(bring(0, 1));
        dueNumber(two, 0, 2, 1, 1, 1, 2);
        answers(two, standard(0), 1);
        answers(two, selected(0, 0), 2);
        answers(two, kept(0, 2), 0);
        Story trunk = one.then(update(0, 0, NONE), edit(0, 0, 2), commit(0, 0));
        answers(trunk, bring(0, 3), 3);
        dueNumber(trunk.then(bring(0, 3)), 0, 3, 1, 1, 1, 2);
        answers(trunk.then(bring(0, 3)), standard(0), 0);
        answers(trunk.then(bring(0, 3)), selected(0, 0), 2);
        answers(trunk.then(bring(0, 3)), kept(0, 3), 2);
    }

    private static void theVendorBranchIsMade() {
        sentence("the vendor branch, which is made if there is none");
        answers(ONE, bring(0, 2), 1);
        Story story = ONE.then(bring(0, 2));
        dueNumber(story, 0, 1, 1, 1, 1, 1);
        answers(story, standard(0), 0);
        answers(story, selected(0, 0), 0);
        answers(story, content(0, 0), 1);
        answers(story, content(0, 1), 2);
        answers(story.then(branchTag(0, 0, 0)), named(0, 0), 2);
        Story later = grown(ONE, 0, 0, 5).then(bring(0, 2), bring(0, 3));
        dueNumber(later, 0, 5, 1, 1, 1, 1);
        dueNumber(later, 0, 6, 1, 1, 1, 2);
        answers(later.then(branchTag(0, 0, 0)), named(0, 0), 2);
    }

    private static void theFirstRevisionIsDead() {
        sentence("the point 1.1, though it be dead");
        Story made = ONE.then(branchTag(0, 0, 0), add(1, 1, 5), update(1, 1, 0), commit(1, 1));
        answers(made, bring(1, text(1, 2)), 2);
        Story story = made.then(bring(1, text(1, 2)));
        dueNumber(story, 1, 2, 1, 1, 1, 1);
        answers(story, kept(1, 2), 2);
        answers(story, standard(1), 0);
        answers(story, selected(0, 1), 0);
        answers(story, dead(1, 2), NO);
        Story removed = ONE.then(remove(0, 0), commit(0, 0));
        answers(removed, bring(0, 7), 2);
        answers(removed.then(bring(0, 7)), selected(0, 0), 1);
        answers(removed.then(bring(0, 7)), update(0, 0, NONE), 0);
    }

    private static void noTextOrMarks() {
        sentence("NONE when text is no text or has marks");
        long[] wrong = {-1, Long.MIN_VALUE, 17, 18, 19, 20, 32, text(1, 0, 1), text(16, 17),
            lines(MAX_LINES + 1), Long.MAX_VALUE};
        for (long text : wrong) {
            refuses(NEW, bring(0, text), NONE);
            refuses(ONE, bring(0, text), NONE);
            refuses(NEW.then(bring(0, 1)), bring(0, text), NONE);
            refuses(NEW, bring(4, text), NONE);
        }
        answers(NEW, bring(0, 16), 1);
    }

    private static void noneBeforeFull() {
        sentence("NONE before FULL");
        Story filled = grown(ONE, 0, 0, MAX_REVISIONS);
        refuses(filled, bring(0, 1), FULL);
        for (long text : new long[] {-1, 17, 20, lines(MAX_LINES + 1)}) {
            refuses(filled, bring(0, text), NONE);
        }
        refuses(filled, bring(-1, 1), NONE);
        refuses(filled, bring(4, 1), NONE);
    }

    private static void sandboxesStay() {
        sentence("bring changes the file alone");
        Story held = NEW.then(bring(0, 1), update(0, 0, NONE), edit(0, 0, 2), add(1, 0, 3));
        Story story = held.then(bring(0, 4));
        dueCopy(story, 0, 0, 1, NO, 2);
        dueCopy(story, 1, 0, ADDED, NO, 3);
        dueCopy(story, 2, 0, NONE, NO, NONE);
        answers(ONE.then(plainTag(0, 0, 0), bring(0, 4)), named(0, 0), 0);
    }
}
