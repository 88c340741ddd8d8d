/** FILES 0 .. 3, CLIENTS 0 .. 2, TAGS 0 .. 4: each call with arguments on and beyond the ends. */
public final class RangeEdgeTest extends Stories {
    /** Every client has an entry of every file, so that a wrong place would be seen to answer. */
    private static final Story ALL_HELD = allHeld();

    public static void main(String[] args) {
        firstAndLastClientAndFile();
        noSuchClient();
        noSuchFile();
        noSuchClientNorFile();
        noSuchFileOfTheStore();
        firstAndLastTag();
        noSuchTag();
        firstAndLastRevision();
        noSuchRevision();
        end();
    }

    private static Story allHeld() {
        Story story = NEW;
        for (int file = 0; file < FILES; file++) {
            story = story.then(bring(file, 1 + file));
            for (int client = 0; client < CLIENTS; client++) {
                story = story.then(update(client, file, NONE));
            }
            story = story.then(plainTag(0, file, 0), branchTag(0, file, 4), update(2, file, 4),
                edit(1, file, 9));
        }
        return story;
    }

    private static void firstAndLastClientAndFile() {
        sentence("FILES 0 .. 3, CLIENTS 0 .. 2");
        for (int client = 0; client < CLIENTS; client++) {
            for (int file = 0; file < FILES; file++) {
                answers(NEW, add(client, file, 5), YES);
                dueCopy(NEW.then(add(client, file, 5)), client, file, ADDED, NO, 5);
                answers(ALL_HELD, edit(client, file, 6), YES);
                answers(ALL_HELD, remove(client, file), YES);
                answers(ALL_HELD.then(edit(client, file, 7)), commit(client, file), 2);
                answers(ALL_HELD, update(client, file, 4), 0);
                answers(ALL_HELD, tag(client, file, 1, true), YES);
                answers(ALL_HELD, entry(client, file), 1);
                answers(ALL_HELD.then(remove(client, file)), removed(client, file), YES);
                answers(ALL_HELD, selected(client, file), 1);
                answers(ALL_HELD.then(update(client, file, 4)), sticky(client, file), 4);
            }
        }
        for (int file = 0; file < FILES; file++) {
            answers(ALL_HELD, bring(file, 8), 2);
            answers(ALL_HELD, revisions(file), 2);
            answers(ALL_HELD, number(file, 1, 3), 1);
            answers(ALL_HELD, content(file, 1), 1 + file);
            answers(ALL_HELD.then(remove(0, file), commit(0, file)), dead(file, 2), YES);
            answers(ALL_HELD, kept(file, 0), 1);
            answers(ALL_HELD, named(file, 0), 1);
            answers(ALL_HELD, standard(file), 1);
        }
    }

    private static void wrongPlace(int client, int file) {
        refuses(ALL_HELD, add(client, file, 5), NO);
        refuses(NEW, add(client, file, 5), NO);
        refuses(ALL_HELD, edit(client, file, 5), NO);
        refuses(ALL_HELD, remove(client, file), NO);
        refuses(ALL_HELD, commit(client, file), NONE);
        for (int sticky : new int[] {NONE, 0, 4, UNSTICK}) {
            refuses(ALL_HELD, update(client, file, sticky), NONE);
        }
        for (int tag = 0; tag < TAGS; tag++) {
            refuses(ALL_HELD, plainTag(client, file, tag), NO);
            refuses(ALL_HELD, branchTag(client, file, tag), NO);
        }
        Story removals = ALL_HELD.then(remove(0, 0), remove(1, 0), remove(0, 3), remove(2, 3));
        answers(removals, removed(client, file), NO);
        answers(ALL_HELD, entry(client, file), NONE);
        answers(ALL_HELD, local(client, file), NONE);
        answers(ALL_HELD, selected(client, file), NONE);
        answers(ALL_HELD, sticky(client, file), NONE);
    }

    private static void noSuchClient() {
        sentence("when there is no such client");
        for (int client : NO_CLIENTS) {
            wrongPlace(client, 0);
            wrongPlace(client, 3);
        }
    }

    private static void noSuchFile() {
        sentence("when there is no such file");
        for (int file : NO_FILES) {
            wrongPlace(0, file);
            wrongPlace(2, file);
        }
    }

    private static void noSuchClientNorFile() {
        sentence("when there is no such client or file");
        wrongPlace(-1, -1);
        wrongPlace(-1, 4);
        wrongPlace(3, -1);
        wrongPlace(3, 4);
        wrongPlace(Integer.MAX_VALUE, Integer.MIN_VALUE);
        wrongPlace(Integer.MIN_VALUE, Integer.MAX_VALUE);
    }

    private static void noSuchFileOfTheStore() {
        sentence("NONE when there is no such file");
        for (int file : NO_FILES) {
            refuses(NEW, bring(file, 5), NONE);
            refuses(ALL_HELD, bring(file, 5), NONE);
            answers(ALL_HELD, revisions(file), NONE);
            answers(ALL_HELD, number(file, 0, 0), NONE);
            answers(ALL_HELD, content(file, 0), NONE);
            answers(ALL_HELD, kept(file, 0), NONE);
            answers(ALL_HELD, standard(file), NONE);
            answers(ALL_HELD.then(remove(0, 0), commit(0, 0), remove(0, 3), commit(0, 3)),
                dead(file, 2), NO);
            for (int tag = 0; tag < TAGS; tag++) {
                answers(ALL_HELD, named(file, tag), NONE);
            }
        }
    }

    private static void firstAndLastTag() {
        sentence("TAGS 0 .. 4");
        for (int tag = 0; tag < TAGS; tag++) {
            answers(ONE, plainTag(0, 0, tag), YES);
            answers(ONE.then(plainTag(0, 0, tag)), named(0, tag), 0);
            answers(ONE.then(plainTag(0, 0, tag)), update(1, 0, tag), 2);
            answers(ONE.then(plainTag(0, 0, tag), update(1, 0, tag)), sticky(1, 0), tag);
            answers(ONE, branchTag(0, 0, tag), YES);
            answers(ONE.then(branchTag(0, 0, tag)), named(0, tag), 1);
        }
    }

    private static void noSuchTag() {
        sentence("False when there is no such tag");
        Story tagged = ONE.then(plainTag(0, 0, 0), branchTag(0, 0, 4));
        for (Story story : new Story[] {ONE, tagged}) {
            for (int tag : NO_TAGS) {
                refuses(story, plainTag(0, 0, tag), NO);
                refuses(story, branchTag(0, 0, tag), NO);
                answers(story, named(0, tag), NONE);
            }
        }
        sentence("NONE when sticky is none of these");
        for (int wish : new int[] {-2, 6, -3, 7, Integer.MIN_VALUE, Integer.MAX_VALUE}) {
            refuses(tagged, update(0, 0, wish), NONE);
            refuses(tagged, update(1, 0, wish), NONE);
            refuses(tagged.then(update(1, 0, 4)), update(1, 0, wish), NONE);
        }
    }

    private static void firstAndLastRevision() {
        sentence("REVISIONS, numbered from 0 on as they were made");
        for (int count = 1; count <= MAX_REVISIONS; count++) {
            Story story = grown(ONE, 0, 0, count);
            answers(story, revisions(0), count);
            answers(story, number(0, 0, 1), 1);
            answers(story, number(0, count - 1, 1), count);
            answers(story, content(0, 0), 1);
            answers(story, entry(0, 0), count - 1);
            answers(story, content(0, count - 1), count == 1 ? 1 : text(15, 1 + (count - 1) % 2));
            beyond(story, count);
            beyond(story, -1);
        }
    }

    private static void beyond(Story story, int r) {
        answers(story, number(0, r, 0), NONE);
        answers(story, content(0, r), NONE);
        answers(story, dead(0, r), NO);
        answers(story, kept(0, r), NONE);
    }

    private static void noSuchRevision() {
        sentence("NONE when there is no such revision");
        for (int r : new int[] {-2, 25, 32, Integer.MIN_VALUE, Integer.MAX_VALUE}) {
            beyond(ONE, r);
            beyond(grown(ONE, 0, 0, MAX_REVISIONS), r);
        }
        for (int r : new int[] {-1, 0, 1}) {
            beyond(NEW, r);
            beyond(NEW.then(add(0, 0, 1)), r);
        }
        Story dead = ONE.then(remove(0, 0), commit(0, 0));
        answers(dead, dead(0, 1), YES);
        answers(dead, dead(0, 2), NO);
        answers(dead, dead(0, -1), NO);
        answers(dead, dead(1, 1), NO);
    }
}
