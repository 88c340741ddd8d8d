/** Promises 1 to 4 and 9 to 11: a new object, add, edit, remove, entry, removed, local. */
public final class SandboxTest {
    private static final int NONE = RevisionStore.NONE;
    private static final int ADDED = RevisionStore.ADDED;
    private static final long TOO_LONG = Check.text(1, 2, 3, 4, 5, 6, 7, 8, 9, 10, 11, 12, 13);
    private static final long LONGEST = Check.text(1, 2, 3, 4, 5, 6, 7, 8, 9, 10, 11, 12);
    private static final long[] NO_TEXTS = {
        -1, Long.MIN_VALUE, Long.MAX_VALUE, 20, 31, 32, 64, 1024,
        Check.text(1, 0, 1), Check.text(1, 20), Check.text(20, 1), Check.text(31, 1), TOO_LONG,
        Check.text(0b111, 1, 1, 1, 1, 1, 1, 1, 1, 1, 1, 1, 1), 1L << 60
    };
    private static final int[] NO_CLIENTS = {-1, 3, Integer.MIN_VALUE, Integer.MAX_VALUE};
    private static final int[] NO_FILES = {-1, 4, Integer.MIN_VALUE, Integer.MAX_VALUE};

    private static final Check CHECK = new Check();

    public static void main(String[] args) {
        newObject();
        addMakesAnAddedEntry();
        addRefuses();
        editChangesTheLocalText();
        editRefuses();
        removeOfAnAddedEntry();
        removeOfARevision();
        noSuchClientOrFile();
        clientsAndFilesAreApart();
        CHECK.end();
    }

    private static void newObject() {
        RevisionStore x = new RevisionStore();
        for (int file = 0; file < 4; file++) {
            CHECK.due("new revisions", x.revisions(file), 0);
            CHECK.due("new standard", x.standard(file), NONE);
            CHECK.due("new content", x.content(file, 0), NONE);
            CHECK.no("new dead", x.dead(file, 0));
            CHECK.due("new kept", x.kept(file, 0), NONE);
            CHECK.due("new number", x.number(file, 0, 0), NONE);
            for (int tag = 0; tag < 5; tag++) {
                CHECK.due("new named", x.named(file, tag), NONE);
                CHECK.due("update to a free tag", x.update(0, file, tag), NONE);
            }
            for (int client = 0; client < 3; client++) {
                CHECK.due("new entry", x.entry(client, file), NONE);
                CHECK.no("new removed", x.removed(client, file));
                CHECK.due("new local", x.local(client, file), NONE);
                CHECK.due("new selected", x.selected(client, file), NONE);
                CHECK.due("new sticky", x.sticky(client, file), NONE);
            }
        }
    }

    private static void addMakesAnAddedEntry() {
        RevisionStore x = new RevisionStore();
        CHECK.yes("add", x.add(2, 3, Check.text(1, 16)));
        CHECK.due("entry", x.entry(2, 3), ADDED);
        CHECK.due("local", x.local(2, 3), Check.text(1, 16));
        CHECK.no("removed", x.removed(2, 3));
        CHECK.due("add makes no file", x.revisions(3), 0);
        CHECK.due("add gives no standard", x.standard(3), NONE);
        CHECK.yes("add of the empty text", x.add(0, 0, 0));
        CHECK.due("empty local", x.local(0, 0), 0);
        CHECK.yes("add of twelve lines", x.add(0, 1, LONGEST));
        CHECK.due("longest local", x.local(0, 1), LONGEST);
        RevisionStore y = Check.storeWith(1);
        CHECK.yes("add where the file is there", y.add(1, 0, 2));
        CHECK.due("the file is as before", y.revisions(0), 1);
    }

    private static void addRefuses() {
        RevisionStore x = new RevisionStore();
        for (long text : NO_TEXTS) {
            CHECK.no("add of no text " + text, x.add(0, 0, text));
        }
        for (int mark = 17; mark <= 19; mark++) {
            CHECK.no("add of a mark", x.add(0, 0, mark));
            CHECK.no("add with a first mark", x.add(0, 0, Check.text(mark, 1, 2)));
            CHECK.no("add with a last mark", x.add(0, 0, Check.text(1, 2, mark)));
        }
        CHECK.due("refused add leaves no entry", x.entry(0, 0), NONE);
        CHECK.due("refused add leaves no text", x.local(0, 0), NONE);
        x.add(0, 0, 5);
        CHECK.no("add twice", x.add(0, 0, 6));
        CHECK.due("second add changes nothing", x.local(0, 0), 5);
        x.commit(0, 0);
        CHECK.no("add where the entry is a revision", x.add(0, 0, 6));
        x.remove(0, 0);
        CHECK.no("add where the entry is removed", x.add(0, 0, 6));
        CHECK.yes("the entry is still removed", x.removed(0, 0));
    }

    private static void editChangesTheLocalText() {
        RevisionStore x = new RevisionStore();
        x.add(0, 0, 5);
        CHECK.yes("edit of an added one", x.edit(0, 0, Check.text(6, 7)));
        CHECK.due("local", x.local(0, 0), Check.text(6, 7));
        CHECK.due("edit leaves the entry", x.entry(0, 0), ADDED);
        CHECK.yes("edit to the empty text", x.edit(0, 0, 0));
        CHECK.due("empty local", x.local(0, 0), 0);
        CHECK.yes("edit with marks", x.edit(0, 0, Check.text(17, 18, 19)));
        CHECK.due("marked local", x.local(0, 0), Check.text(17, 18, 19));
        CHECK.yes("edit to twelve lines", x.edit(0, 0, LONGEST));
        x.commit(0, 0);
        CHECK.yes("edit of a revision", x.edit(0, 0, 3));
        CHECK.due("local of a revision", x.local(0, 0), 3);
        CHECK.due("the revision keeps its text", x.content(0, 0), LONGEST);
    }

    private static void editRefuses() {
        RevisionStore x = new RevisionStore();
        CHECK.no("edit without an entry", x.edit(0, 0, 1));
        CHECK.due("no local text by edit", x.local(0, 0), NONE);
        x.add(0, 0, 5);
        for (long text : NO_TEXTS) {
            CHECK.no("edit to no text " + text, x.edit(0, 0, text));
        }
        CHECK.due("refused edit changes nothing", x.local(0, 0), 5);
        x.commit(0, 0);
        x.remove(0, 0);
        CHECK.no("edit of a removed one", x.edit(0, 0, 6));
        CHECK.due("removed has no local text", x.local(0, 0), NONE);
    }

    private static void removeOfAnAddedEntry() {
        RevisionStore x = new RevisionStore();
        CHECK.no("remove without an entry", x.remove(0, 0));
        x.add(0, 0, 5);
        CHECK.yes("remove of an added one", x.remove(0, 0));
        CHECK.due("entry is none", x.entry(0, 0), NONE);
        CHECK.due("local is none", x.local(0, 0), NONE);
        CHECK.no("it is not a removed one", x.removed(0, 0));
        CHECK.no("remove again", x.remove(0, 0));
        CHECK.yes("add again", x.add(0, 0, 6));
        CHECK.due("local again", x.local(0, 0), 6);
    }

    private static void removeOfARevision() {
        RevisionStore x = Check.storeWith(5);
        CHECK.yes("remove of a revision", x.remove(0, 0));
        CHECK.yes("it is removed", x.removed(0, 0));
        CHECK.due("the entry stays", x.entry(0, 0), 0);
        CHECK.due("there is no local text", x.local(0, 0), NONE);
        CHECK.no("remove of a removed one", x.remove(0, 0));
        CHECK.yes("it is still removed", x.removed(0, 0));
        CHECK.due("the file is as before", x.revisions(0), 1);
    }

    private static void noSuchClientOrFile() {
        RevisionStore x = Check.storeWith(5);
        for (int client : NO_CLIENTS) {
            wrongPlace(x, client, 0);
        }
        for (int file : NO_FILES) {
            wrongPlace(x, 0, file);
        }
        CHECK.due("nothing is changed", x.local(0, 0), 5);
    }

    private static void wrongPlace(RevisionStore x, int client, int file) {
        String place = " of client " + client + " and file " + file;
        CHECK.no("add" + place, x.add(client, file, 1));
        CHECK.no("edit" + place, x.edit(client, file, 1));
        CHECK.no("remove" + place, x.remove(client, file));
        CHECK.due("commit" + place, x.commit(client, file), NONE);
        CHECK.due("update" + place, x.update(client, file, NONE), NONE);
        CHECK.no("tag" + place, x.tag(client, file, 0, false));
        CHECK.due("entry" + place, x.entry(client, file), NONE);
        CHECK.no("removed" + place, x.removed(client, file));
        CHECK.due("local" + place, x.local(client, file), NONE);
        CHECK.due("selected" + place, x.selected(client, file), NONE);
        CHECK.due("sticky" + place, x.sticky(client, file), NONE);
    }

    private static void clientsAndFilesAreApart() {
        RevisionStore x = new RevisionStore();
        for (int client = 0; client < 3; client++) {
            for (int file = 0; file < 4; file++) {
                CHECK.yes("add", x.add(client, file, 1 + client * 4 + file));
            }
        }
        for (int client = 0; client < 3; client++) {
            for (int file = 0; file < 4; file++) {
                CHECK.due("local", x.local(client, file), 1 + client * 4 + file);
            }
        }
    }
}
