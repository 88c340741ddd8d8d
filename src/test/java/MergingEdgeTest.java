/** The boundary cases of merging (Terms and promise 6), seen by the local text after update. */
public final class MergingEdgeTest extends Stories {
    public static void main(String[] args) {
        noStableLine();
        mineIsAsTheOrigin();
        theirsIsAsTheOrigin();
        bothAreTheSame();
        overlapWithAnEmptyPart();
        oneStableLine();
        severalParts();
        neighbouringChanges();
        ofTwoWaysTheOriginsLineIsPassed();
        aLongerWayIsTaken();
        sameNextLinesArePaired();
        marksInTheLocalText();
        mergedToTheEmptyText();
        twelveLinesWithoutAnOverlap();
        twelveLinesWithAnOverlap();
        longestMergings();
        oneMergingAfterAnother();
        end();
    }

    /** Client 1 has the origin's text, and changed it to mine, before theirs was brought. */
    private static Story changed(long origin, long mine, long theirs) {
        return NEW.then(bring(0, origin), update(1, 0, NONE), edit(1, 0, mine), bring(0, theirs));
    }

    private static void merges(long origin, long mine, long theirs, int answer, long merged) {
        Story story = changed(origin, mine, theirs);
        answers(story, update(1, 0, NONE), answer);
        dueCopy(story.then(update(1, 0, NONE)), 1, 0, 2, NO, merged);
        answers(story.then(update(1, 0, NONE)), content(0, 1), origin);
        answers(story.then(update(1, 0, NONE)), content(0, 2), theirs);
    }

    private static void isTooLong(long origin, long mine, long theirs) {
        refuses(changed(origin, mine, theirs), update(1, 0, NONE), FULL);
    }

    private static void noStableLine() {
        sentence("as many parts, one more than there are stable lines: one part");
        merges(0, 1, 2, 5, text(17, 1, 18, 2, 19));
        merges(1, 2, 3, 5, text(17, 2, 18, 3, 19));
        merges(text(1, 2), text(3, 4), text(5, 6), 5, text(17, 3, 4, 18, 5, 6, 19));
    }

    private static void mineIsAsTheOrigin() {
        sentence("if A's is the same as O's, B's is taken");
        merges(text(1, 2, 3), text(1, 2, 4), text(5, 2, 3), 4, text(5, 2, 4));
        merges(text(1, 2, 3), text(1, 2, 4), text(2, 3), 4, text(2, 4));
        merges(text(1, 2, 3), text(1, 2, 4), text(6, 7, 1, 2, 3), 4, text(6, 7, 1, 2, 4));
    }

    private static void theirsIsAsTheOrigin() {
        sentence("if B's is the same as O's, A's is taken");
        merges(1, 2, 1, 4, 2);
        merges(0, 1, 0, 4, 1);
        merges(text(1, 2), text(2, 1), text(1, 2), 4, text(2, 1));
        merges(lines(MAX_LINES), 0, lines(MAX_LINES), 4, 0);
        merges(0, lines(MAX_LINES), 0, 4, lines(MAX_LINES));
        merges(lines(MAX_LINES), repeated(13, MAX_LINES), lines(MAX_LINES), 4,
            repeated(13, MAX_LINES));
    }

    private static void bothAreTheSame() {
        sentence("or as A's, A's is taken");
        merges(0, 1, 1, 4, 1);
        merges(1, 0, 0, 4, 0);
        merges(1, 2, 2, 4, 2);
        merges(text(1, 2, 3), text(1, 4, 5, 3), text(1, 4, 5, 3), 4, text(1, 4, 5, 3));
        merges(0, lines(MAX_LINES), lines(MAX_LINES), 4, lines(MAX_LINES));
        merges(1, text(2, 3), text(2, 4), 5, text(17, 2, 3, 18, 2, 4, 19));
        merges(1, text(2, 3), text(2), 5, text(17, 2, 3, 18, 2, 19));
        merges(1, text(2), text(2, 3), 5, text(17, 2, 18, 2, 3, 19));
        merges(text(5, 1), text(9, 5, 2), text(5, 2), 4, text(9, 5, 2));
        merges(text(5, 1), text(5, 2), text(9, 5, 2), 4, text(9, 5, 2));
    }

    private static void overlapWithAnEmptyPart() {
        sentence("otherwise it is an OVERLAP, and 17, A's, 18, B's, 19 are taken");
        merges(1, 0, 2, 5, text(17, 18, 2, 19));
        merges(1, 2, 0, 5, text(17, 2, 18, 19));
        merges(text(1, 2), 0, 1, 5, text(17, 18, 1, 19));
        merges(text(1, 2), 1, 0, 5, text(17, 1, 18, 19));
        merges(text(1, 2), 1, 2, 5, text(17, 1, 18, 2, 19));
        merges(text(3, 1), 3, text(3, 2), 5, text(3, 17, 18, 2, 19));
        merges(text(3, 1), text(3, 2), 3, 5, text(3, 17, 2, 18, 19));
        merges(text(1, 3), text(3), text(2, 3), 5, text(17, 18, 2, 19, 3));
    }

    private static void oneStableLine() {
        sentence("Behind each part but the last one comes the stable line");
        merges(1, text(1, 2), text(1, 3), 5, text(1, 17, 2, 18, 3, 19));
        merges(1, text(2, 1), text(3, 1), 5, text(17, 2, 18, 3, 19, 1));
        merges(1, text(2, 1), text(1, 3), 4, text(2, 1, 3));
        merges(1, text(1, 2), text(3, 1), 4, text(3, 1, 2));
        merges(5, text(1, 5, 3), text(2, 5, 4), 5,
            text(17, 1, 18, 2, 19, 5, 17, 3, 18, 4, 19));
        merges(5, text(1, 5, 3), text(1, 5, 4), 5, text(1, 5, 17, 3, 18, 4, 19));
        merges(5, text(1, 5, 3), text(2, 5, 3), 5, text(17, 1, 18, 2, 19, 5, 3));
    }

    private static void severalParts() {
        sentence("For each part, in order");
        merges(text(1, 2, 3), text(1, 4, 2, 3), text(1, 2, 5, 3), 4, text(1, 4, 2, 5, 3));
        merges(text(1, 5, 2, 6, 3), text(7, 5, 2, 6, 3), text(1, 5, 8, 6, 3), 4,
            text(7, 5, 8, 6, 3));
        merges(text(1, 5, 2, 6, 3), text(7, 5, 9, 6, 3), text(1, 5, 8, 6, 10), 5,
            text(7, 5, 17, 9, 18, 8, 19, 6, 10));
        long mine = text(1, 2, 3, 4, 5, 6, 7, 8, 9, 10, 11, 13);
        long theirs = text(14, 2, 3, 4, 5, 6, 7, 8, 9, 10, 11, 12);
        merges(lines(MAX_LINES), mine, theirs, 4, text(14, 2, 3, 4, 5, 6, 7, 8, 9, 10, 11, 13));
    }

    private static void neighbouringChanges() {
        sentence("a line of O is STABLE when it is in a pair of O and A and in one of O and B");
        merges(text(1, 2), text(3, 2), text(1, 4), 5, text(17, 3, 2, 18, 1, 4, 19));
        merges(text(1, 5, 2), text(3, 5, 2), text(1, 5, 4), 4, text(3, 5, 4));
        merges(text(1, 2, 3), text(2, 3), text(1, 2), 4, 2);
        merges(text(1, 2), 2, 1, 5, text(17, 2, 18, 1, 19));
        merges(text(1, 2, 3, 4), text(1, 9, 3, 4), text(1, 2, 8, 4), 5,
            text(1, 17, 9, 3, 18, 2, 8, 19, 4));
    }

    private static void ofTwoWaysTheOriginsLineIsPassed() {
        sentence("A's line is passed, if the subsequence is at least as long: as long");
        merges(text(1, 2), text(2, 1), text(1, 2, 3), 5, text(2, 17, 1, 18, 3, 19));
        merges(text(1, 2), text(1, 2, 3), text(2, 1), 5, text(2, 17, 3, 18, 1, 19));
        merges(text(1, 2), text(2, 1), text(3, 1, 2), 5, text(17, 18, 3, 1, 19, 2, 1));
        merges(text(1, 2), text(2, 1), text(2, 1), 4, text(2, 1));
    }

    private static void aLongerWayIsTaken() {
        sentence("A's line is passed, if it is longer; otherwise B's line is passed");
        merges(text(1, 2, 3), text(2, 3, 1), text(1, 2, 3, 4), 5,
            text(2, 3, 17, 1, 18, 4, 19));
        merges(text(1, 2, 3), text(3, 1, 2), text(4, 1, 2, 3), 5,
            text(17, 3, 18, 4, 19, 1, 2));
        merges(text(1, 2, 3), text(4, 1, 2, 3), text(3, 1, 2), 5,
            text(17, 4, 18, 3, 19, 1, 2));
        merges(text(1, 2, 3), text(1, 2, 3, 4), text(2, 3, 1), 5,
            text(2, 3, 17, 4, 18, 1, 19));
    }

    private static void sameNextLinesArePaired() {
        sentence("when the next lines are the same, they are a PAIR, and both are passed");
        merges(text(1, 1), 1, text(1, 5, 1), 5, text(1, 17, 18, 5, 1, 19));
        merges(text(1, 1), text(1, 1, 1), text(2, 1, 1), 4, text(2, 1, 1, 1));
        merges(text(1, 1), text(1, 1, 1), text(1, 1, 2), 5, text(1, 1, 17, 1, 18, 2, 19));
        merges(1, text(1, 1), text(1, 2, 1), 5, text(1, 17, 1, 18, 2, 1, 19));
        merges(1, text(1, 2, 1), text(1, 1), 5, text(1, 17, 2, 1, 18, 1, 19));
    }

    private static void marksInTheLocalText() {
        sentence("edit may leave marks in what is merged");
        merges(1, text(1, 17, 18, 19), text(2, 1), 4, text(2, 1, 17, 18, 19));
        merges(3, text(17, 2, 18, 3, 19), text(3, 4), 5,
            text(17, 2, 18, 3, 17, 19, 18, 4, 19));
        merges(text(1, 2), 17, text(1, 2), 4, 17);
    }

    private static void mergedToTheEmptyText() {
        sentence("a merged text of no lines");
        merges(1, 0, 1, 4, 0);
        merges(1, 0, 0, 4, 0);
        merges(text(1, 5, 2), 5, text(1, 5, 2), 4, 5);
        merges(lines(MAX_LINES), 0, 0, 4, 0);
    }

    /** Each of the two puts a line to another end of the origin's. */
    private static void twelveLinesWithoutAnOverlap() {
        sentence("FULL, when the merged text would have more than 12 lines: no overlap");
        merges(lines(9), text(13, 1, 2, 3, 4, 5, 6, 7, 8, 9), text(1, 2, 3, 4, 5, 6, 7, 8, 9, 14),
            4, text(13, 1, 2, 3, 4, 5, 6, 7, 8, 9, 14));
        merges(lines(10), text(13, 1, 2, 3, 4, 5, 6, 7, 8, 9, 10),
            text(1, 2, 3, 4, 5, 6, 7, 8, 9, 10, 14), 4,
            text(13, 1, 2, 3, 4, 5, 6, 7, 8, 9, 10, 14));
        isTooLong(lines(11), text(13, 1, 2, 3, 4, 5, 6, 7, 8, 9, 10, 11),
            text(1, 2, 3, 4, 5, 6, 7, 8, 9, 10, 11, 14));
    }

    /** Both change the last of the origin's lines, or one takes it away. */
    private static void twelveLinesWithAnOverlap() {
        sentence("FULL, when the merged text would have more than 12 lines: an overlap");
        merges(text(1, 2, 3, 4, 5, 6, 16), text(1, 2, 3, 4, 5, 6, 13), text(1, 2, 3, 4, 5, 6, 14),
            5, text(1, 2, 3, 4, 5, 6, 17, 13, 18, 14, 19));
        merges(text(1, 2, 3, 4, 5, 6, 7, 16), text(1, 2, 3, 4, 5, 6, 7, 13),
            text(1, 2, 3, 4, 5, 6, 7, 14), 5, text(1, 2, 3, 4, 5, 6, 7, 17, 13, 18, 14, 19));
        isTooLong(text(1, 2, 3, 4, 5, 6, 7, 8, 16), text(1, 2, 3, 4, 5, 6, 7, 8, 13),
            text(1, 2, 3, 4, 5, 6, 7, 8, 14));
        merges(text(1, 2, 3, 4, 5, 6, 7, 8, 16), lines(8), text(1, 2, 3, 4, 5, 6, 7, 8, 14), 5,
            text(1, 2, 3, 4, 5, 6, 7, 8, 17, 18, 14, 19));
        isTooLong(text(1, 2, 3, 4, 5, 6, 7, 8, 9, 16), lines(9),
            text(1, 2, 3, 4, 5, 6, 7, 8, 9, 14));
        isTooLong(text(1, 2, 3, 4, 5, 6, 7, 8, 9, 16), text(1, 2, 3, 4, 5, 6, 7, 8, 9, 14),
            lines(9));
        merges(0, repeated(1, 4), repeated(2, 5), 5, text(17, 1, 1, 1, 1, 18, 2, 2, 2, 2, 2, 19));
        isTooLong(0, repeated(1, 5), repeated(2, 5));
    }

    private static void longestMergings() {
        sentence("FULL, when the merged text would have more than 12 lines: far more");
        isTooLong(0, repeated(1, MAX_LINES), repeated(2, MAX_LINES));
        isTooLong(lines(MAX_LINES), repeated(15, MAX_LINES), repeated(16, MAX_LINES));
        isTooLong(lines(6), text(7, 1, 7, 2, 7, 3, 7, 4, 7, 5, 7, 6),
            text(8, 1, 8, 2, 8, 3, 8, 4, 8, 5, 8, 6));
        isTooLong(lines(6), text(1, 7, 2, 7, 3, 7, 4, 7, 5, 7, 6, 7),
            text(1, 8, 2, 8, 3, 8, 4, 8, 5, 8, 6, 8));
        isTooLong(0, repeated(19, MAX_LINES), repeated(2, MAX_LINES));
    }

    /** What one merging found must not be left to the next, in either order. */
    private static void oneMergingAfterAnother() {
        sentence("4, or 5 when there was an overlap");
        Story apart = NEW.then(bring(0, text(1, 2, 3)), update(0, 0, NONE), update(1, 0, NONE),
            update(2, 0, NONE), bring(0, text(1, 2, 4)), edit(0, 0, text(5, 2, 3)),
            edit(1, 0, text(1, 2, 6)), edit(2, 0, repeated(7, MAX_LINES)));
        Call clean = update(0, 0, NONE);
        Call overlap = update(1, 0, NONE);
        Call tooLong = update(2, 0, NONE);
        answers(apart.then(overlap), clean, 4);
        answers(apart.then(overlap, clean), local(0, 0), text(5, 2, 4));
        answers(apart.then(clean), overlap, 5);
        answers(apart.then(clean, overlap), local(1, 0), text(1, 2, 17, 6, 18, 4, 19));
        answers(apart.tried(tooLong), clean, 4);
        answers(apart.tried(tooLong), overlap, 5);
        answers(apart.tried(tooLong).then(overlap), local(1, 0), text(1, 2, 17, 6, 18, 4, 19));
        refuses(apart.then(overlap, clean), tooLong, FULL);
        answers(apart.then(overlap).tried(kept(0, 2)), clean, 4);
    }
}
