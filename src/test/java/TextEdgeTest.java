/** The boundary cases of the terms LINE, MARK and TEXT, in the three calls that take a text. */
public final class TextEdgeTest extends Stories {
    private static final int FIRST_LINE = 1;
    private static final int LAST_CLEAN_LINE = 16;
    private static final int LAST_LINE = 19;
    private static final int LAST_DIGIT = 31;

    public static void main(String[] args) {
        aLineIs1To19();
        marksAre17To19();
        aTextHasAtMost12Lines();
        thirteenLinesAreNoText();
        theFirstLineIsTheHighestDigit();
        theEmptyTextIs0();
        aNumberBelow0IsNoText();
        anotherDigitIsNoText();
        end();
    }

    /** The line alone, and as first, middle and last one of a short and of the longest text. */
    private static long[] textsWith(int line) {
        return new long[] {line, text(line, 1), text(1, line), text(2, line, 3),
            row(line, 0), row(line, 5), row(line, 11)};
    }

    private static long row(int line, int place) {
        int[] row = {1, 2, 3, 4, 5, 6, 7, 8, 9, 10, 11, 12};
        row[place] = line;
        return text(row);
    }

    private static void clean(long text) {
        answers(NEW, add(0, 0, text), YES);
        answers(NEW.then(add(0, 0, text)), local(0, 0), text);
        answers(ONE, edit(0, 0, text), YES);
        answers(ONE.then(edit(0, 0, text)), local(0, 0), text);
        answers(NEW, bring(0, text), 1);
        answers(NEW.then(bring(0, text)), content(0, 1), text);
        answers(NEW.then(add(0, 0, text)), commit(0, 0), 0);
    }

    private static void marked(long text) {
        refuses(NEW, add(0, 0, text), NO);
        answers(ONE, edit(0, 0, text), YES);
        answers(ONE.then(edit(0, 0, text)), local(0, 0), text);
        refuses(NEW, bring(0, text), NONE);
        refuses(ONE.then(edit(0, 0, text)), commit(0, 0), MARKED);
    }

    private static void noText(long number) {
        refuses(NEW, add(0, 0, number), NO);
        refuses(ONE, edit(0, 0, number), NO);
        refuses(NEW, bring(0, number), NONE);
        refuses(ONE, bring(0, number), NONE);
    }

    private static void aLineIs1To19() {
        sentence("A LINE is a number 1 .. 19");
        for (long text : textsWith(FIRST_LINE)) {
            clean(text);
        }
        for (long text : textsWith(LAST_LINE)) {
            answers(ONE, edit(0, 0, text), YES);
            answers(ONE.then(edit(0, 0, text)), local(0, 0), text);
        }
        for (long number : textsWith(LAST_LINE + 1)) {
            noText(number);
        }
    }

    private static void marksAre17To19() {
        sentence("17, 18 and 19 are MARKS");
        for (long text : textsWith(LAST_CLEAN_LINE)) {
            clean(text);
        }
        for (int mark = LAST_CLEAN_LINE + 1; mark <= LAST_LINE; mark++) {
            for (long text : textsWith(mark)) {
                marked(text);
            }
        }
    }

    private static void aTextHasAtMost12Lines() {
        sentence("A TEXT is a row of at most 12 lines");
        for (int count = 0; count <= MAX_LINES; count++) {
            clean(lines(count));
            clean(repeated(LAST_CLEAN_LINE, count));
        }
    }

    /** Of the numbers with thirteen digits only those that begin with 1 .. 7 are above 0. */
    private static void thirteenLinesAreNoText() {
        sentence("or more than 12, is no text");
        noText(lines(MAX_LINES + 1));
        for (int first = 1; first <= 7; first++) {
            noText(((long) first << 60) | repeated(1, MAX_LINES));
            noText(((long) first << 60) | repeated(LAST_LINE, MAX_LINES));
        }
        noText(1L << 60);
        noText(Long.MAX_VALUE);
    }

    private static void theFirstLineIsTheHighestDigit() {
        sentence("whose digits by 32 are its lines, the first one the highest");
        Story story = NEW.then(add(0, 0, 1 * 32 * 32 + 2 * 32 + 3), commit(0, 0),
            update(1, 0, NONE), edit(0, 0, 1 * 32 * 32 + 2 * 32 + 4), commit(0, 0),
            edit(1, 0, 5 * 32 * 32 + 2 * 32 + 3), update(1, 0, NONE));
        answers(story, local(1, 0), 5 * 32 * 32 + 2 * 32 + 4);
        Story overlap = NEW.then(add(0, 0, 1 * 32 + 2), commit(0, 0), update(1, 0, NONE),
            edit(0, 0, 1 * 32 + 3), commit(0, 0), edit(1, 0, 1 * 32 + 4), update(1, 0, NONE));
        answers(overlap, local(1, 0), ((((1L * 32 + 17) * 32 + 4) * 32 + 18) * 32 + 3) * 32 + 19);
    }

    private static void theEmptyTextIs0() {
        sentence("the empty text is 0");
        clean(0);
        answers(NEW.then(add(0, 0, 0), commit(0, 0)), content(0, 0), 0);
        answers(NEW.then(add(0, 0, 0), commit(0, 0)), kept(0, 0), 0);
        answers(NEW.then(add(0, 0, 0), commit(0, 0)), dead(0, 0), NO);
    }

    private static void aNumberBelow0IsNoText() {
        sentence("a number below 0 is no text");
        long[] below = {-1, -2, -19, -32, -33, -lines(MAX_LINES), Long.MIN_VALUE,
            Long.MIN_VALUE + 1, Long.MIN_VALUE | lines(MAX_LINES), -1L << 60,
            (-1L << 60) | lines(MAX_LINES)};
        for (long number : below) {
            noText(number);
        }
    }

    private static void anotherDigitIsNoText() {
        sentence("or with another digit than 1 .. 19 is no text");
        noText(text(1, 0));
        noText(text(1, 0, 1));
        noText(row(0, 5));
        noText(row(0, 11));
        noText(1L << 55);
        for (int digit = LAST_LINE + 1; digit <= LAST_DIGIT; digit++) {
            for (long number : textsWith(digit)) {
                noText(number);
            }
        }
    }
}
