/** The boundary cases of promises 1 to 4: a new object, add, edit, remove. */
public final class SandboxEdgeTest extends Stories {
    private static final Story ADDED_ONE = NEW.then(add(0, 0, 5));
    private static final Story REMOVED = ONE.then(remove(0, 0));
    private static final Story DEAD = REMOVED.then(commit(0, 0));

    public static void main(String[] args) {
        noFileIsThere();
        allTagsAreFree();
        storesAreApart();
        addWithoutAnEntry();
        addWhereItHasAnEntry();
        addWhereNoTextOrMarksAndAnEntry();
        editWhereItHasALocalText();
        editWhereItHasNoLocalText();
        removeOfAnAddedEntry();
        removeOfARevision();
        removeWithoutAnEntry();
        removeWhereItIsRemoved();
        end();
    }

    private static void noFileIsThere() {
        sentence("No file is there");
        for (int file = 0; file < FILES; file++) {
            answers(NEW, revisions(file), 0);
            answers(NEW, standard(file), NONE);
            for (int client = 0; client < CLIENTS; client++) {
                dueCopy(NEW, client, file, NONE, NO, NONE);
                answers(NEW, selected(client, file), NONE);
                answers(NEW, sticky(client, file), NONE);
                refuses(NEW, edit(client, file, 1), NO);
                refuses(NEW, remove(client, file), NO);
                refuses(NEW, commit(client, file), NONE);
                refuses(NEW, update(client, file, NONE), 0);
                refuses(NEW, update(client, file, UNSTICK), 0);
            }
        }
    }

    private static void allTagsAreFree() {
        sentence("all tags are free");
        for (int tag = 0; tag < TAGS; tag++) {
            for (int file = 0; file < FILES; file++) {
                answers(NEW, named(file, tag), NONE);
                refuses(NEW, update(0, file, tag), NONE);
                refuses(NEW, plainTag(0, file, tag), NO);
                refuses(NEW, branchTag(0, file, tag), NO);
            }
            answers(ONE, plainTag(0, 0, tag), YES);
            answers(ONE, branchTag(0, 0, tag), YES);
        }
    }

    /** Two stores at once, lest anything be held outside the objects. */
    private static void storesAreApart() {
        sentence("A new object");
        answers(NEW, new Call("another store's calls and then revisions(0)", x -> {
            RevisionStore other = ONE.then(branchTag(0, 0, 0)).told();
            return other.revisions(0) * 100 + x.revisions(0);
        }, answer -> true), 100);
        answers(ONE, new Call("a new store's update(0, 0, 0)", x -> {
            x.tag(0, 0, 0, false);
            return new RevisionStore().update(0, 0, 0);
        }, answer -> true), NONE);
    }

    private static void addWithoutAnEntry() {
        sentence("A client adds a file: its entry is ADDED, its local text is text");
        Story[] stories = {NEW, ADDED_ONE.then(remove(0, 0)), DEAD,
            NEW.then(bring(0, 1)), ONE.then(branchTag(0, 0, 0), remove(0, 0), commit(0, 0))};
        for (Story story : stories) {
            for (long text : new long[] {0, 1, lines(MAX_LINES)}) {
                answers(story, add(0, 0, text), YES);
                dueCopy(story.then(add(0, 0, text)), 0, 0, ADDED, NO, text);
                dueCopy(story.then(add(0, 0, text)), 1, 0, NONE, NO, NONE);
                dueCopy(story.then(add(0, 0, text)), 0, 1, NONE, NO, NONE);
            }
            answers(story.then(add(0, 0, 9)), add(1, 0, 9), YES);
            answers(story.then(add(0, 0, 9)), add(0, 1, 9), YES);
        }
        answers(ADDED_ONE, revisions(0), 0);
        answers(ONE.then(add(1, 0, 9)), revisions(0), 1);
        Story branched = ONE.then(branchTag(0, 0, 3), update(0, 1, 3));
        answers(branched, add(0, 1, 2), YES);
        answers(branched.then(add(0, 1, 2)), sticky(0, 1), 3);
    }

    private static void addWhereItHasAnEntry() {
        sentence("add: false when it has an entry");
        for (long text : new long[] {0, 5, 6}) {
            refuses(ADDED_ONE, add(0, 0, text), NO);
            refuses(ONE, add(0, 0, text), NO);
            refuses(ONE.then(edit(0, 0, 2)), add(0, 0, text), NO);
            refuses(REMOVED, add(0, 0, text), NO);
        }
    }

    private static void addWhereNoTextOrMarksAndAnEntry() {
        sentence("add: false when text is no text or has marks");
        long[] wrong = {-1, 20, 32, text(1, 0, 1), lines(MAX_LINES + 1), 17, 18, 19};
        for (long text : wrong) {
            refuses(NEW, add(2, 3, text), NO);
            refuses(ADDED_ONE, add(0, 0, text), NO);
            refuses(DEAD, add(0, 0, text), NO);
        }
    }

    private static void editWhereItHasALocalText() {
        sentence("The local text becomes text");
        Story[] stories = {ADDED_ONE, ONE, ONE.then(edit(0, 0, 3)),
            ONE.then(plainTag(0, 0, 0), update(0, 0, 0))};
        for (Story story : stories) {
            long entry = story == ADDED_ONE ? ADDED : 0;
            for (long text : new long[] {0, 1, 5, 17, 19, text(17, 18, 19), lines(MAX_LINES)}) {
                answers(story, edit(0, 0, text), YES);
                dueCopy(story.then(edit(0, 0, text)), 0, 0, entry, NO, text);
            }
        }
        answers(ONE.then(edit(0, 0, 3)), content(0, 0), 1);
    }

    private static void editWhereItHasNoLocalText() {
        sentence("edit: false when it has no local text");
        for (long text : new long[] {0, 1, 17}) {
            refuses(NEW, edit(0, 0, text), NO);
            refuses(ADDED_ONE, edit(1, 0, text), NO);
            refuses(ADDED_ONE, edit(0, 1, text), NO);
            refuses(ADDED_ONE.then(remove(0, 0)), edit(0, 0, text), NO);
            refuses(REMOVED, edit(0, 0, text), NO);
            refuses(DEAD, edit(0, 0, text), NO);
        }
        refuses(NEW, edit(0, 0, -1), NO);
        refuses(REMOVED, edit(0, 0, 20), NO);
    }

    private static void removeOfAnAddedEntry() {
        sentence("An entry that is ADDED is none then");
        answers(ADDED_ONE, remove(0, 0), YES);
        dueCopy(ADDED_ONE.then(remove(0, 0)), 0, 0, NONE, NO, NONE);
        answers(ADDED_ONE.then(remove(0, 0)), revisions(0), 0);
        Story marked = ADDED_ONE.then(edit(0, 0, 17));
        answers(marked, remove(0, 0), YES);
        dueCopy(marked.then(remove(0, 0)), 0, 0, NONE, NO, NONE);
        Story besides = ONE.then(add(1, 0, 2), remove(1, 0));
        dueCopy(besides, 1, 0, NONE, NO, NONE);
        dueCopy(besides, 0, 0, 0, NO, 1);
    }

    private static void removeOfARevision() {
        sentence("one that is a revision is marked as removed, and has no local text");
        answers(ONE, remove(0, 0), YES);
        dueCopy(REMOVED, 0, 0, 0, YES, NONE);
        answers(REMOVED, revisions(0), 1);
        Story modified = ONE.then(edit(0, 0, 17));
        answers(modified, remove(0, 0), YES);
        dueCopy(modified.then(remove(0, 0)), 0, 0, 0, YES, NONE);
        Story brought = NEW.then(bring(0, 0), update(0, 0, NONE));
        answers(brought, remove(0, 0), YES);
        dueCopy(brought.then(remove(0, 0)), 0, 0, 1, YES, NONE);
        Story two = ONE.then(update(1, 0, NONE), remove(0, 0));
        dueCopy(two, 1, 0, 0, NO, 1);
    }

    private static void removeWithoutAnEntry() {
        sentence("remove: false when it has no entry");
        refuses(NEW, remove(0, 0), NO);
        refuses(ONE, remove(1, 0), NO);
        refuses(ONE, remove(0, 1), NO);
        refuses(ADDED_ONE.then(remove(0, 0)), remove(0, 0), NO);
        refuses(DEAD, remove(0, 0), NO);
    }

    private static void removeWhereItIsRemoved() {
        sentence("remove: false when it is removed");
        refuses(REMOVED, remove(0, 0), NO);
        refuses(ONE.then(edit(0, 0, 2), remove(0, 0)), remove(0, 0), NO);
    }
}
