import java.util.ArrayList;
import java.util.Arrays;
import java.util.List;

/**
 * What the tests of the boundary cases have in common: the calls by name, and the questions.
 * Each question is put to a new store, so that none is asked beyond its 512 calls.
 */
abstract class Stories {
    static final int NONE = RevisionStore.NONE;
    static final int ADDED = RevisionStore.ADDED;
    static final int STICKY = RevisionStore.STICKY;
    static final int STALE = RevisionStore.STALE;
    static final int UNCHANGED = RevisionStore.UNCHANGED;
    static final int MARKED = RevisionStore.MARKED;
    static final int FULL = RevisionStore.FULL;
    static final int UNSTICK = 5;
    static final long YES = 1;
    static final long NO = 0;

    static final int MAX_CALLS = 512;
    static final int CLIENTS = 3;
    static final int FILES = 4;
    static final int TAGS = 5;
    static final int MAX_REVISIONS = 24;
    static final int MAX_LINES = 12;
    /** Five branches, each from the one before it, give twelve parts; one more is behind them. */
    private static final int MAX_PARTS = 13;

    static final int[] NO_CLIENTS = {-1, 3, -2, 4, 7, Integer.MIN_VALUE, Integer.MAX_VALUE};
    static final int[] NO_FILES = {-1, 4, -2, 5, 8, Integer.MIN_VALUE, Integer.MAX_VALUE};
    static final int[] NO_TAGS = {-1, 5, -2, 6, Integer.MIN_VALUE, Integer.MAX_VALUE};

    static final Story NEW = new Story();
    /** Client 0 has committed the line 1 as revision 0 of file 0. */
    static final Story ONE = NEW.then(add(0, 0, 1), commit(0, 0));

    private static final List<Call> PROBES = probes();
    private static final List<Call> LONG_PROBE = longProbe();
    private static final List<List<Call>> FILE_VIEWS = fileViews();
    private static final List<List<List<Call>>> REVISION_VIEWS = revisionViews();

    private static String sentence = "";
    private static int asked = 0;
    private static int wrong = 0;

    /** Says which sentence of the document the next questions are about. */
    static void sentence(String words) {
        sentence = words;
    }

    static void end() {
        System.out.println(asked + " answers, " + wrong + " wrong");
        if (wrong != 0 || asked == 0) {
            System.exit(1);
        }
    }

    static Call add(int client, int file, long text) {
        return new Call(words("add", client, file, text),
            x -> x.add(client, file, text) ? YES : NO, answer -> answer == YES);
    }

    static Call edit(int client, int file, long text) {
        return new Call(words("edit", client, file, text),
            x -> x.edit(client, file, text) ? YES : NO, answer -> answer == YES);
    }

    static Call remove(int client, int file) {
        return new Call(words("remove", client, file),
            x -> x.remove(client, file) ? YES : NO, answer -> answer == YES);
    }

    static Call commit(int client, int file) {
        return new Call(words("commit", client, file),
            x -> x.commit(client, file), answer -> answer >= 0);
    }

    static Call update(int client, int file, int sticky) {
        return new Call(words("update", client, file, sticky),
            x -> x.update(client, file, sticky), answer -> answer >= 0 && answer != 3);
    }

    static Call tag(int client, int file, int tag, boolean branch) {
        return new Call(words("tag", client, file, tag) + (branch ? " as a branch" : ""),
            x -> x.tag(client, file, tag, branch) ? YES : NO, answer -> answer == YES);
    }

    static Call plainTag(int client, int file, int tag) {
        return tag(client, file, tag, false);
    }

    static Call branchTag(int client, int file, int tag) {
        return tag(client, file, tag, true);
    }

    static Call bring(int file, long text) {
        return new Call(words("bring", file, text), x -> x.bring(file, text), answer -> answer >= 0);
    }

    static Call entry(int client, int file) {
        return new Call(words("entry", client, file), x -> x.entry(client, file), answer -> true);
    }

    static Call removed(int client, int file) {
        return new Call(words("removed", client, file),
            x -> x.removed(client, file) ? YES : NO, answer -> true);
    }

    static Call local(int client, int file) {
        return new Call(words("local", client, file), x -> x.local(client, file), answer -> true);
    }

    static Call selected(int client, int file) {
        return new Call(words("selected", client, file),
            x -> x.selected(client, file), answer -> true);
    }

    static Call sticky(int client, int file) {
        return new Call(words("sticky", client, file), x -> x.sticky(client, file), answer -> true);
    }

    static Call revisions(int file) {
        return new Call(words("revisions", file), x -> x.revisions(file), answer -> true);
    }

    static Call number(int file, int r, int i) {
        return new Call(words("number", file, r, i), x -> x.number(file, r, i), answer -> true);
    }

    static Call content(int file, int r) {
        return new Call(words("content", file, r), x -> x.content(file, r), answer -> true);
    }

    static Call dead(int file, int r) {
        return new Call(words("dead", file, r), x -> x.dead(file, r) ? YES : NO, answer -> true);
    }

    static Call kept(int file, int r) {
        return new Call(words("kept", file, r), x -> x.kept(file, r), answer -> true);
    }

    static Call named(int file, int tag) {
        return new Call(words("named", file, tag), x -> x.named(file, tag), answer -> true);
    }

    static Call standard(int file) {
        return new Call(words("standard", file), x -> x.standard(file), answer -> true);
    }

    static long text(int... lines) {
        return Check.text(lines);
    }

    /** A text of so many lines, which are 1, 2, 3, .. */
    static long lines(int count) {
        long number = 0;
        for (int line = 1; line <= count; line++) {
            number = number * 32 + line;
        }
        return number;
    }

    /** A text of so many lines that are all the same. */
    static long repeated(int line, int count) {
        long number = 0;
        for (int i = 0; i < count; i++) {
            number = number * 32 + line;
        }
        return number;
    }

    /** The story, and then commits by a client that has an entry, to so many revisions. */
    static Story grown(Story story, int client, int file, int revisions) {
        Story longer = story;
        int count = story.told().revisions(file);
        for (int r = count; r < revisions; r++) {
            longer = longer.then(edit(client, file, text(15, 1 + r % 2)), commit(client, file));
        }
        return longer;
    }

    /** Behind the story the call must answer what is due. */
    static void answers(Story story, Call call, long due) {
        String flaw = story.flaw();
        if (flaw != null) {
            fail(story, flaw + ", which the test rests on");
        }
        compare(story, call, call.on(story.told()), due);
    }

    /** Behind the story the call must answer what is due, and change nothing. */
    static void refuses(Story story, Call call, long due) {
        answers(story, call, due);
        Story behind = story.tried(call);
        sameViews(story, behind, MAX_REVISIONS);
        for (Call probe : PROBES) {
            compare(behind, probe, probe.on(behind.told()), probe.on(story.told()));
            sameViews(story.tried(probe), behind.tried(probe), 2);
        }
        sameLongProbe(story, behind);
    }

    /** Behind the story the revision must have just these parts in its number. */
    static void dueNumber(Story story, int file, int r, int... parts) {
        for (int i = 0; i < parts.length; i++) {
            answers(story, number(file, r, i), parts[i]);
        }
        answers(story, number(file, r, parts.length), 0);
    }

    /** What a client has of a file: the entry, whether it is removed, the local text. */
    static void dueCopy(Story story, int client, int file, long entry, long removed, long local) {
        answers(story, entry(client, file), entry);
        answers(story, removed(client, file), removed);
        answers(story, local(client, file), local);
    }

    private static void compare(Story story, Call question, long got, long due) {
        asked++;
        if (got != due) {
            fail(story, question.words() + " answered " + got + ", due is " + due);
        }
    }

    private static void fail(Story story, String what) {
        wrong++;
        System.out.println("[" + sentence + "] " + story + what);
    }

    private static void sameLongProbe(Story story, Story behind) {
        RevisionStore due = story.told();
        RevisionStore got = behind.told();
        int room = MAX_CALLS - behind.length();
        for (int i = 0; i < LONG_PROBE.size() && i < room; i++) {
            Call call = LONG_PROBE.get(i);
            compare(behind, call, call.on(got), call.on(due));
        }
    }

    /** Both stories must show the same of all files and of so many of their last revisions. */
    private static void sameViews(Story story, Story behind, int lasts) {
        View due = new View(story);
        View got = new View(behind);
        for (int file = 0; file < FILES; file++) {
            sameAnswers(FILE_VIEWS.get(file), behind, due, got);
            int count = (int) due.ask(revisions(file));
            for (int r = Math.max(0, count - lasts); r <= count; r++) {
                sameAnswers(REVISION_VIEWS.get(file).get(r), behind, due, got);
            }
        }
    }

    private static void sameAnswers(List<Call> views, Story behind, View due, View got) {
        for (Call view : views) {
            compare(behind, view, got.ask(view), due.ask(view));
        }
    }

    /** A store that has heard a story, and hears it anew when its calls are used up. */
    private static final class View {
        private final Story story;
        private RevisionStore store;
        private int used;

        View(Story story) {
            this.story = story;
            store = story.told();
            used = story.length();
        }

        long ask(Call view) {
            if (used == MAX_CALLS) {
                store = story.told();
                used = story.length();
            }
            used++;
            return view.on(store);
        }
    }

    private static String words(String name, long... arguments) {
        String row = Arrays.toString(arguments);
        return name + "(" + row.substring(1, row.length() - 1) + ")";
    }

    /** One call of each sort for each client, file and tag: they show what no reading shows. */
    private static List<Call> probes() {
        List<Call> all = new ArrayList<>();
        for (int file = 0; file < FILES; file++) {
            all.add(bring(file, text(16, 16)));
            for (int client = 0; client < CLIENTS; client++) {
                all.add(add(client, file, text(16, 15)));
                all.add(edit(client, file, text(16, 14)));
                all.add(remove(client, file));
                all.add(commit(client, file));
                for (int sticky = NONE; sticky <= UNSTICK; sticky++) {
                    all.add(update(client, file, sticky));
                }
                for (int tag = 0; tag < TAGS; tag++) {
                    all.add(plainTag(client, file, tag));
                    all.add(branchTag(client, file, tag));
                }
            }
        }
        return all;
    }

    private static List<Call> longProbe() {
        List<Call> all = new ArrayList<>();
        for (int file = 0; file < FILES; file++) {
            for (int client = 0; client < CLIENTS; client++) {
                all.addAll(List.of(edit(client, file, text(16, 1 + client)), commit(client, file),
                    update(client, file, UNSTICK), add(client, file, 16)));
            }
            for (int tag = 0; tag < TAGS; tag++) {
                int client = tag % CLIENTS;
                all.addAll(List.of(branchTag(client, file, tag), plainTag(client, file, tag),
                    named(file, tag), update(client, file, tag), edit(client, file, 3 + tag),
                    commit(client, file), update(client, file, UNSTICK)));
            }
            all.addAll(List.of(bring(file, 9), standard(file), revisions(file)));
        }
        return all;
    }

    private static List<List<Call>> fileViews() {
        List<List<Call>> all = new ArrayList<>();
        for (int file = 0; file < FILES; file++) {
            List<Call> views = new ArrayList<>(List.of(revisions(file), standard(file)));
            for (int tag = 0; tag < TAGS; tag++) {
                views.add(named(file, tag));
            }
            for (int client = 0; client < CLIENTS; client++) {
                views.addAll(List.of(entry(client, file), removed(client, file),
                    local(client, file), selected(client, file), sticky(client, file)));
            }
            all.add(views);
        }
        return all;
    }

    private static List<List<List<Call>>> revisionViews() {
        List<List<List<Call>>> all = new ArrayList<>();
        for (int file = 0; file < FILES; file++) {
            List<List<Call>> views = new ArrayList<>();
            for (int r = 0; r <= MAX_REVISIONS; r++) {
                List<Call> row = new ArrayList<>(List.of(content(file, r), dead(file, r),
                    kept(file, r)));
                for (int i = 0; i < MAX_PARTS; i++) {
                    row.add(number(file, r, i));
                }
                views.add(row);
            }
            all.add(views);
        }
        return all;
    }
}
