import java.util.Arrays;

/**
 * A repository of versioned files and the sandboxes of its clients. The promises that the
 * comments name are those of the document DOC.md.
 */
public final class RevisionStore {
    public static final int NONE = -1;
    public static final int ADDED = -2;
    public static final int STICKY = -3;
    public static final int STALE = -4;
    public static final int UNCHANGED = -5;
    public static final int MARKED = -6;
    public static final int FULL = -7;

    private static final int FILES = 4;
    private static final int CLIENTS = 3;
    private static final int TAGS = 5;

    /** What update takes for "no sticky tag from now on". */
    private static final int UNSTICK = 5;

    private static final int FREE_TAG = 0;
    private static final int PLAIN_TAG = 1;
    private static final int BRANCH_TAG = 2;

    private static final int LEFT_ALONE = 0;
    private static final int DROPPED = 1;
    private static final int FETCHED = 2;
    private static final int IN_THE_WAY = 3;
    private static final int MERGED = 4;
    private static final int OVERLAPPED = 5;

    private static final int MAX_LINES = 12;
    private static final int MAX_REVISIONS = 24;
    private static final int MAX_BRANCHES = 6;
    private static final int TRUNK = 0;

    /** What commitRefusal answers when nothing stands against the commit; no refusal is 0. */
    private static final int ALLOWED = 0;

    private final History[] histories;
    private final Copy[] copies;
    private final int[] tagSorts;
    private final Difference difference;
    private final Merger merger;

    public RevisionStore() {
        histories = new History[FILES];
        for (int file = 0; file < FILES; file++) {
            histories[file] = new History();
        }
        copies = new Copy[CLIENTS * FILES];
        for (int i = 0; i < copies.length; i++) {
            copies[i] = new Copy();
        }
        tagSorts = new int[TAGS];
        difference = new Difference();
        merger = new Merger();
    }

    public boolean add(int client, int file, long text) {
        if (!isClient(client) || !isFile(file)) {
            return false;
        }
        Copy copy = copyOf(client, file);
        if (copy.hasEntry() || !Text.isClean(text)) {
            return false;
        }
        copy.hold(ADDED, text);
        return true;
    }

    public boolean edit(int client, int file, long text) {
        if (!isClient(client) || !isFile(file)) {
            return false;
        }
        Copy copy = copyOf(client, file);
        if (!copy.hasText() || !Text.isText(text)) {
            return false;
        }
        copy.text = text;
        return true;
    }

    public boolean remove(int client, int file) {
        if (!isClient(client) || !isFile(file)) {
            return false;
        }
        Copy copy = copyOf(client, file);
        if (!copy.hasText()) {
            return false;
        }
        if (copy.hasRevision()) {
            copy.markGone();
        } else {
            copy.drop();
        }
        return true;
    }

    public int commit(int client, int file) {
        if (!isClient(client) || !isFile(file)) {
            return NONE;
        }
        Copy copy = copyOf(client, file);
        History history = histories[file];
        int refusal = commitRefusal(copy, history);
        if (refusal != ALLOWED) {
            return refusal;
        }
        return copy.gone ? commitGone(copy, history) : commitText(copy, history);
    }

    public int update(int client, int file, int sticky) {
        if (!isClient(client) || !isFile(file) || !isStickyWish(sticky)) {
            return NONE;
        }
        Copy copy = copyOf(client, file);
        History history = histories[file];
        int newTag = wishedTag(copy, sticky);
        int answer = updateCopy(copy, history, selectedBy(history, newTag));
        if (answer != IN_THE_WAY && answer != FULL) {
            copy.stickyTag = newTag;
        }
        return answer;
    }

    public boolean tag(int client, int file, int tag, boolean branch) {
        if (!isClient(client) || !isFile(file) || !isTag(tag)) {
            return false;
        }
        Copy copy = copyOf(client, file);
        History history = histories[file];
        int sort = branch ? BRANCH_TAG : PLAIN_TAG;
        if (!copy.hasRevision() || tagSorts[tag] != FREE_TAG && tagSorts[tag] != sort) {
            return false;
        }
        if (branch && (history.names[tag] != NONE || !history.hasRoom(0, 1))) {
            return false;
        }
        tagSorts[tag] = sort;
        history.names[tag] = branch ? history.openBranch(copy.base) : copy.base;
        return true;
    }

    public int bring(int file, long text) {
        if (!isFile(file) || !Text.isClean(text)) {
            return NONE;
        }
        History history = histories[file];
        boolean fresh = !history.isThere();
        if (!history.hasRoom(fresh ? 2 : 1, history.vendor == NONE ? 1 : 0)) {
            return FULL;
        }
        if (fresh) {
            history.append(TRUNK, text, false);
        }
        if (history.vendor == NONE) {
            history.openVendorBranch();
        }
        if (fresh) {
            history.defaultBranch = history.vendor;
        }
        return history.append(history.vendor, text, false);
    }

    public int entry(int client, int file) {
        return isClient(client) && isFile(file) ? copyOf(client, file).base : NONE;
    }

    public boolean removed(int client, int file) {
        return isClient(client) && isFile(file) && copyOf(client, file).gone;
    }

    public long local(int client, int file) {
        if (!isClient(client) || !isFile(file)) {
            return NONE;
        }
        Copy copy = copyOf(client, file);
        return copy.hasText() ? copy.text : NONE;
    }

    public int selected(int client, int file) {
        if (!isClient(client) || !isFile(file)) {
            return NONE;
        }
        return selectedBy(histories[file], copyOf(client, file).stickyTag);
    }

    public int sticky(int client, int file) {
        return isClient(client) && isFile(file) ? copyOf(client, file).stickyTag : NONE;
    }

    public int revisions(int file) {
        return isFile(file) ? histories[file].count : NONE;
    }

    public int number(int file, int r, int i) {
        return isRevision(file, r) && i >= 0 ? histories[file].numberPart(r, i) : NONE;
    }

    public long content(int file, int r) {
        return isRevision(file, r) ? histories[file].texts[r] : NONE;
    }

    public boolean dead(int file, int r) {
        return isRevision(file, r) && histories[file].deaths[r];
    }

    public int kept(int file, int r) {
        if (!isRevision(file, r)) {
            return NONE;
        }
        History history = histories[file];
        int neighbour = history.keptAgainst(r);
        if (neighbour == NONE) {
            return Text.lineCount(history.texts[r]);
        }
        difference.compare(history.texts[neighbour], history.texts[r]);
        return difference.size();
    }

    public int named(int file, int tag) {
        return isFile(file) && isTag(tag) ? histories[file].names[tag] : NONE;
    }

    public int standard(int file) {
        return isFile(file) && histories[file].isThere() ? histories[file].defaultBranch : NONE;
    }

    private static boolean isClient(int client) {
        return client >= 0 && client < CLIENTS;
    }

    private static boolean isFile(int file) {
        return file >= 0 && file < FILES;
    }

    private static boolean isTag(int tag) {
        return tag >= 0 && tag < TAGS;
    }

    private boolean isRevision(int file, int r) {
        return isFile(file) && r >= 0 && r < histories[file].count;
    }

    private Copy copyOf(int client, int file) {
        return copies[client * FILES + file];
    }

    private int selectedBy(History history, int stickyTag) {
        if (!history.isThere()) {
            return NONE;
        }
        if (stickyTag == NONE) {
            return history.tip(history.defaultBranch);
        }
        int name = history.names[stickyTag];
        if (name == NONE || tagSorts[stickyTag] == PLAIN_TAG) {
            return name;
        }
        return history.tip(name);
    }

    /** The refusals of promise 5 in the document's order, but for the arguments' own. */
    private int commitRefusal(Copy copy, History history) {
        if (!copy.hasEntry()) {
            return NONE;
        }
        if (copy.stickyTag != NONE && tagSorts[copy.stickyTag] == PLAIN_TAG) {
            return STICKY;
        }
        if (isStale(copy, history)) {
            return STALE;
        }
        if (copy.hasRevision() && !copy.gone && !isModified(copy, history)) {
            return UNCHANGED;
        }
        if (copy.hasText() && Text.hasMarks(copy.text)) {
            return MARKED;
        }
        return hasRoomToCommit(copy, history) ? ALLOWED : FULL;
    }

    private boolean isStale(Copy copy, History history) {
        int target = selectedBy(history, copy.stickyTag);
        return copy.hasRevision() ? copy.base != target : history.isAlive(target);
    }

    private static boolean isModified(Copy copy, History history) {
        return copy.text != history.texts[copy.base];
    }

    private static boolean hasRoomToCommit(Copy copy, History history) {
        if (copy.stickyTag == NONE) {
            return history.hasRoom(1, 0);
        }
        int newRevisions = history.isThere() ? 1 : 2;
        int newBranches = history.names[copy.stickyTag] == NONE ? 1 : 0;
        return history.hasRoom(newRevisions, newBranches);
    }

    private static int commitGone(Copy copy, History history) {
        int branch = branchToCommitOn(copy, history);
        int revision = history.append(branch, history.texts[copy.base], true);
        copy.drop();
        return revision;
    }

    private static int commitText(Copy copy, History history) {
        int branch = branchToCommitOn(copy, history);
        int revision = history.append(branch, copy.text, false);
        copy.hold(revision, copy.text);
        return revision;
    }

    /** Readies the branch that promise 5 puts the new revision on, and answers it. */
    private static int branchToCommitOn(Copy copy, History history) {
        if (copy.stickyTag == NONE) {
            history.defaultBranch = TRUNK;
            return TRUNK;
        }
        if (!history.isThere()) {
            history.append(TRUNK, Text.EMPTY, true);
        }
        if (history.names[copy.stickyTag] == NONE) {
            history.names[copy.stickyTag] = history.openBranch(history.tip(TRUNK));
        }
        return history.names[copy.stickyTag];
    }

    private boolean isStickyWish(int sticky) {
        return sticky == NONE || sticky == UNSTICK
            || isTag(sticky) && tagSorts[sticky] != FREE_TAG;
    }

    private static int wishedTag(Copy copy, int sticky) {
        if (sticky == NONE) {
            return copy.stickyTag;
        }
        return sticky == UNSTICK ? NONE : sticky;
    }

    /** Promise 6 but for the sticky tag: the target is the selected revision by the new one. */
    private int updateCopy(Copy copy, History history, int target) {
        boolean alive = history.isAlive(target);
        if (copy.base == ADDED) {
            return alive ? IN_THE_WAY : LEFT_ALONE;
        }
        if (!alive) {
            return updateToNothing(copy, history);
        }
        if (!copy.hasEntry()) {
            copy.hold(target, history.texts[target]);
            return FETCHED;
        }
        if (copy.gone || copy.base == target) {
            return LEFT_ALONE;
        }
        if (!isModified(copy, history)) {
            copy.hold(target, history.texts[target]);
            return FETCHED;
        }
        return mergeInto(copy, history, target);
    }

    private static int updateToNothing(Copy copy, History history) {
        if (!copy.hasEntry()) {
            return LEFT_ALONE;
        }
        if (!copy.gone && isModified(copy, history)) {
            return IN_THE_WAY;
        }
        copy.drop();
        return DROPPED;
    }

    private int mergeInto(Copy copy, History history, int target) {
        merger.merge(history.texts[copy.base], copy.text, history.texts[target]);
        if (merger.isTooLong()) {
            return FULL;
        }
        copy.hold(target, merger.text);
        return merger.overlap ? OVERLAPPED : MERGED;
    }

    /** Texts as numbers, whose digits by 32 are the lines. */
    private static final class Text {
        private static final long EMPTY = 0;
        private static final long BASE = 32;
        private static final int LAST_LINE = 19;
        private static final int OVERLAP_START = 17;
        private static final int OVERLAP_MIDDLE = 18;
        private static final int OVERLAP_END = 19;

        private static boolean isText(long number) {
            if (number < 0) {
                return false;
            }
            long rest = number;
            for (int i = 0; i < MAX_LINES && rest > 0; i++) {
                long line = rest % BASE;
                if (line < 1 || line > LAST_LINE) {
                    return false;
                }
                rest /= BASE;
            }
            return rest == 0;
        }

        private static boolean isClean(long number) {
            return isText(number) && !hasMarks(number);
        }

        private static boolean hasMarks(long text) {
            long rest = text;
            for (int i = 0; i < MAX_LINES; i++) {
                if (rest % BASE >= OVERLAP_START) {
                    return true;
                }
                rest /= BASE;
            }
            return false;
        }

        private static int lineCount(long text) {
            int count = 0;
            long rest = text;
            while (count < MAX_LINES && rest > 0) {
                rest /= BASE;
                count++;
            }
            return count;
        }

        /** Writes the lines of a text to the front of a row, and answers how many they are. */
        private static int spread(long text, int[] row) {
            int count = lineCount(text);
            long rest = text;
            for (int i = count - 1; i >= 0; i--) {
                row[i] = (int) (rest % BASE);
                rest /= BASE;
            }
            return count;
        }
    }

    /** What one client has of one file. */
    private static final class Copy {
        /** The entry: NONE, ADDED or a revision. */
        private int base = NONE;
        private boolean gone = false;
        private long text = Text.EMPTY;
        private int stickyTag = NONE;

        private boolean hasEntry() {
            return base != NONE;
        }

        private boolean hasRevision() {
            return base >= 0;
        }

        private boolean hasText() {
            return hasEntry() && !gone;
        }

        private void hold(int newBase, long newText) {
            base = newBase;
            gone = false;
            text = newText;
        }

        private void markGone() {
            gone = true;
        }

        private void drop() {
            base = NONE;
            gone = false;
        }
    }

    /** The revisions and branches of one file, which is there when it has a revision. */
    private static final class History {
        private static final int VENDOR_MAGIC = 1;
        private static final int FIRST_REVISION = 0;

        private final long[] texts = new long[MAX_REVISIONS];
        private final boolean[] deaths = new boolean[MAX_REVISIONS];
        private final int[] homes = new int[MAX_REVISIONS];
        private final int[] ranks = new int[MAX_REVISIONS];
        /** The revision before each on its branch; for a branch's first one the point. */
        private final int[] befores = new int[MAX_REVISIONS];
        private int count = 0;

        private final int[] points = new int[MAX_BRANCHES];
        private final int[] magics = new int[MAX_BRANCHES];
        private final int[] lengths = new int[MAX_BRANCHES];
        /** The head of each branch, or its point while it has no revision. */
        private final int[] tips = new int[MAX_BRANCHES];
        private int branchCount = 1;
        private int vendor = NONE;
        private int defaultBranch = TRUNK;

        /** What each tag names: a revision or a branch, by the tag's sort. */
        private final int[] names = new int[TAGS];

        private History() {
            points[TRUNK] = NONE;
            // The trunk's number 1.k has the form of a branch's, with no point's number before it.
            magics[TRUNK] = 1;
            tips[TRUNK] = NONE;
            Arrays.fill(names, NONE);
        }

        private boolean isThere() {
            return count > 0;
        }

        private boolean isAlive(int revision) {
            return revision != NONE && !deaths[revision];
        }

        private boolean hasRoom(int newRevisions, int newBranches) {
            return count + newRevisions <= MAX_REVISIONS
                && branchCount + newBranches <= MAX_BRANCHES;
        }

        private int tip(int branch) {
            return tips[branch];
        }

        private int append(int branch, long text, boolean death) {
            int revision = count;
            count++;
            lengths[branch]++;
            texts[revision] = text;
            deaths[revision] = death;
            homes[revision] = branch;
            ranks[revision] = lengths[branch];
            befores[revision] = tips[branch];
            tips[branch] = revision;
            return revision;
        }

        private int openBranch(int point) {
            return openBranchWith(point, freeMagic(point));
        }

        private void openVendorBranch() {
            vendor = openBranchWith(FIRST_REVISION, VENDOR_MAGIC);
        }

        private int openBranchWith(int point, int magic) {
            int branch = branchCount;
            branchCount++;
            points[branch] = point;
            magics[branch] = magic;
            tips[branch] = point;
            return branch;
        }

        /** No branch is ever closed, so the even magic numbers at a point have no gaps. */
        private int freeMagic(int point) {
            int magic = 2;
            for (int branch = 1; branch < branchCount; branch++) {
                if (branch != vendor && points[branch] == point) {
                    magic += 2;
                }
            }
            return magic;
        }

        private int depth(int revision) {
            int depth = 0;
            int branch = homes[revision];
            for (int i = 1; i < MAX_BRANCHES && branch != TRUNK; i++) {
                branch = homes[points[branch]];
                depth++;
            }
            return depth;
        }

        /** Each branch on the way from the trunk to the revision gives two parts. */
        private int numberPart(int revision, int part) {
            int depth = depth(revision);
            int level = part / 2;
            if (level > depth) {
                return 0;
            }
            int ancestor = revision;
            for (int i = depth; i > level; i--) {
                ancestor = points[homes[ancestor]];
            }
            return part % 2 == 0 ? magics[homes[ancestor]] : ranks[ancestor];
        }

        /** The revision whose difference a revision is kept as; NONE when it is kept whole. */
        private int keptAgainst(int revision) {
            return homes[revision] == TRUNK ? nextOnTrunk(revision) : befores[revision];
        }

        private int nextOnTrunk(int revision) {
            for (int next = revision + 1; next < count; next++) {
                if (homes[next] == TRUNK) {
                    return next;
                }
            }
            return NONE;
        }
    }

    /** The difference of two texts; its rows are used again by each comparison. */
    private static final class Difference {
        private final int[] first = new int[MAX_LINES];
        private final int[] second = new int[MAX_LINES];
        private int firstCount = 0;
        private int secondCount = 0;
        /** How long the longest common subsequence is of the rests from i and from j on. */
        private final int[][] common = new int[MAX_LINES + 1][MAX_LINES + 1];
        /** The line of the second text that each of the first is paired with, or NONE. */
        private final int[] partners = new int[MAX_LINES];
        private int pairCount = 0;

        private void compare(long firstText, long secondText) {
            firstCount = Text.spread(firstText, first);
            secondCount = Text.spread(secondText, second);
            measureRests();
            pairLines();
        }

        private int size() {
            return firstCount + secondCount - 2 * pairCount;
        }

        private void measureRests() {
            for (int i = firstCount; i >= 0; i--) {
                for (int j = secondCount; j >= 0; j--) {
                    if (i == firstCount || j == secondCount) {
                        common[i][j] = 0;
                    } else if (first[i] == second[j]) {
                        common[i][j] = 1 + common[i + 1][j + 1];
                    } else {
                        common[i][j] = Math.max(common[i + 1][j], common[i][j + 1]);
                    }
                }
            }
        }

        private void pairLines() {
            Arrays.fill(partners, NONE);
            pairCount = 0;
            int i = 0;
            int j = 0;
            while (i < firstCount && j < secondCount) {
                if (first[i] == second[j]) {
                    partners[i] = j;
                    pairCount++;
                    i++;
                    j++;
                } else if (common[i + 1][j] >= common[i][j + 1]) {
                    i++;
                } else {
                    j++;
                }
            }
        }
    }

    /** Merges two texts that come from a third one; its rows are used again by each merging. */
    private static final class Merger {
        private final Difference mine = new Difference();
        private final Difference theirs = new Difference();
        private long text = Text.EMPTY;
        private int lineCount = 0;
        private boolean overlap = false;

        private void merge(long origin, long myText, long theirText) {
            mine.compare(origin, myText);
            theirs.compare(origin, theirText);
            text = Text.EMPTY;
            lineCount = 0;
            overlap = false;
            int originStart = 0;
            int myStart = 0;
            int theirStart = 0;
            for (int i = 0; i < mine.firstCount; i++) {
                int myEnd = mine.partners[i];
                int theirEnd = theirs.partners[i];
                if (myEnd != NONE && theirEnd != NONE) {
                    mergePart(originStart, i, myStart, myEnd, theirStart, theirEnd);
                    take(mine.first[i]);
                    originStart = i + 1;
                    myStart = myEnd + 1;
                    theirStart = theirEnd + 1;
                }
            }
            mergePart(originStart, mine.firstCount, myStart, mine.secondCount,
                theirStart, theirs.secondCount);
        }

        private boolean isTooLong() {
            return lineCount > MAX_LINES;
        }

        private void mergePart(int originStart, int originEnd, int myStart, int myEnd,
                int theirStart, int theirEnd) {
            if (isSame(mine.first, originStart, originEnd, mine.second, myStart, myEnd)) {
                takeAll(theirs.second, theirStart, theirEnd);
            } else if (isSame(mine.first, originStart, originEnd,
                        theirs.second, theirStart, theirEnd)
                    || isSame(mine.second, myStart, myEnd, theirs.second, theirStart, theirEnd)) {
                takeAll(mine.second, myStart, myEnd);
            } else {
                overlap = true;
                take(Text.OVERLAP_START);
                takeAll(mine.second, myStart, myEnd);
                take(Text.OVERLAP_MIDDLE);
                takeAll(theirs.second, theirStart, theirEnd);
                take(Text.OVERLAP_END);
            }
        }

        private static boolean isSame(int[] rowA, int startA, int endA,
                int[] rowB, int startB, int endB) {
            if (endA - startA != endB - startB) {
                return false;
            }
            for (int i = 0; i < endA - startA; i++) {
                if (rowA[startA + i] != rowB[startB + i]) {
                    return false;
                }
            }
            return true;
        }

        private void takeAll(int[] row, int start, int end) {
            for (int i = start; i < end; i++) {
                take(row[i]);
            }
        }

        /** Lines beyond the limit are only counted: a number has no room for them. */
        private void take(int line) {
            if (lineCount < MAX_LINES) {
                text = text * Text.BASE + line;
            }
            lineCount++;
        }
    }
}
