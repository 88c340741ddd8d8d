/** The boundary cases of promise 6, update: each entry against each selected revision. */
public final class UpdateEdgeTest extends Stories {
    private static final int PLAIN = 0;
    private static final int BRANCH = 4;
    /** File 1 has both tags, file 0 has none of them, and file 2 is not there. */
    private static final Story TAGS_OF_FILE_1 = ONE.then(add(0, 1, 1), commit(0, 1),
        plainTag(0, 1, PLAIN), branchTag(0, 1, BRANCH));
    /** Client 1 has revision 0 of file 0, whose trunk then has a second one, dead. */
    private static final Story DEAD = TAGS_OF_FILE_1.then(update(1, 0, NONE), remove(0, 0),
        commit(0, 0));
    /** Client 1 has revision 0 of file 0, whose trunk then has a second one. */
    private static final Story NEWER = TAGS_OF_FILE_1.then(update(1, 0, NONE), edit(0, 0, 2),
        commit(0, 0));

    public static void main(String[] args) {
        freeTag();
        noneBeforeAllElse();
        stickyTagLeft();
        stickyTagMadeAndUnmade();
        selectedByTheNewTag();
        noEntryAndNothing();
        noEntryAndARevision();
        addedAndARevision();
        addedAndNothing();
        removedAndNothing();
        removedAndARevision();
        notModifiedAndNothing();
        modifiedAndNothing();
        sameRevision();
        notModifiedAndAnother();
        modifiedAndAnother();
        fullMergeChangesNothing();
        end();
    }

    private static void freeTag() {
        sentence("Answers NONE when the tag is free");
        for (int tag = 1; tag < BRANCH; tag++) {
            refuses(TAGS_OF_FILE_1, update(0, 0, tag), NONE);
            refuses(TAGS_OF_FILE_1, update(2, 0, tag), NONE);
            refuses(TAGS_OF_FILE_1.then(update(2, 1, BRANCH)), update(2, 1, tag), NONE);
        }
        answers(TAGS_OF_FILE_1.then(plainTag(0, 0, 1)), update(2, 2, 1), 0);
        answers(TAGS_OF_FILE_1.then(branchTag(0, 0, 3)), update(2, 2, 3), 0);
    }

    private static void noneBeforeAllElse() {
        sentence("NONE before all the others");
        Story inTheWay = TAGS_OF_FILE_1.then(add(1, 0, 2));
        answers(inTheWay, update(1, 0, NONE), 3);
        for (int wish : new int[] {-2, 6, 1, 2, 3}) {
            refuses(inTheWay, update(1, 0, wish), NONE);
            refuses(NEWER, update(1, 0, wish), NONE);
            refuses(NEWER.then(edit(1, 0, 9)), update(1, 0, wish), NONE);
            refuses(DEAD, update(1, 0, wish), NONE);
            refuses(DEAD.then(remove(1, 0)), update(1, 0, wish), NONE);
        }
    }

    private static void stickyTagLeft() {
        sentence("NONE leaves the sticky tag");
        answers(ONE.then(update(1, 0, NONE)), sticky(1, 0), NONE);
        for (int tag : new int[] {PLAIN, BRANCH}) {
            Story stuck = TAGS_OF_FILE_1.then(update(1, 1, tag));
            answers(stuck.then(update(1, 1, NONE)), sticky(1, 1), tag);
            answers(stuck.then(update(1, 1, NONE)), entry(1, 1), 0);
            Story moved = stuck.then(edit(0, 1, 2), commit(0, 1));
            answers(moved, update(1, 1, NONE), 0);
            answers(moved.then(update(1, 1, NONE)), sticky(1, 1), tag);
        }
    }

    private static void stickyTagMadeAndUnmade() {
        sentence("0 .. 4 makes that tag the sticky one; 5 makes it none");
        Story all = ONE;
        for (int tag = 0; tag < TAGS; tag++) {
            all = all.then(branchTag(0, 0, tag));
        }
        for (int tag = 0; tag < TAGS; tag++) {
            Story stuck = all.then(update(1, 0, tag));
            answers(stuck, sticky(1, 0), tag);
            answers(stuck, sticky(0, 0), NONE);
            answers(stuck, sticky(1, 1), NONE);
            answers(stuck, update(1, 0, UNSTICK), 0);
            answers(stuck.then(update(1, 0, UNSTICK)), sticky(1, 0), NONE);
            answers(stuck.then(update(1, 0, (tag + 1) % TAGS)), sticky(1, 0), (tag + 1) % TAGS);
        }
        answers(all.then(update(1, 0, UNSTICK)), sticky(1, 0), NONE);
    }

    private static void selectedByTheNewTag() {
        sentence("the selected revision is that by the new one");
        Story story = TAGS_OF_FILE_1.then(edit(0, 1, 2), commit(0, 1), update(1, 1, BRANCH),
            edit(1, 1, 3), commit(1, 1));
        answers(story, update(2, 1, NONE), 2);
        answers(story.then(update(2, 1, NONE)), entry(2, 1), 1);
        answers(story.then(update(2, 1, PLAIN)), entry(2, 1), 0);
        answers(story.then(update(2, 1, BRANCH)), entry(2, 1), 2);
        Story onTheBranch = story.then(update(2, 1, BRANCH));
        answers(onTheBranch.then(update(2, 1, PLAIN)), entry(2, 1), 0);
        answers(onTheBranch.then(update(2, 1, UNSTICK)), entry(2, 1), 1);
        answers(onTheBranch.then(update(2, 1, UNSTICK)), local(2, 1), 2);
    }

    /** After such an update only the sticky tag is another one. */
    private static void leaves(Story story, int client, int file, int wish, int tag) {
        answers(story, update(client, file, wish), 0);
        RevisionStore before = story.told();
        Story after = story.then(update(client, file, wish));
        dueCopy(after, client, file, before.entry(client, file),
            before.removed(client, file) ? YES : NO, before.local(client, file));
        answers(after, sticky(client, file), tag);
        answers(after, revisions(file), before.revisions(file));
    }

    private static void drops(Story story, int client, int file, int wish, int tag) {
        answers(story, update(client, file, wish), 1);
        Story after = story.then(update(client, file, wish));
        dueCopy(after, client, file, NONE, NO, NONE);
        answers(after, sticky(client, file), tag);
    }

    private static void fetches(Story story, int client, int wish, int tag, long entry, long text) {
        answers(story, update(client, 0, wish), 2);
        Story after = story.then(update(client, 0, wish));
        dueCopy(after, client, 0, entry, NO, text);
        answers(after, sticky(client, 0), tag);
    }

    private static void noEntryAndNothing() {
        sentence("0, when there is no entry, and the selected revision is none or dead");
        leaves(NEW, 0, 0, NONE, NONE);
        leaves(NEW, 0, 0, UNSTICK, NONE);
        leaves(TAGS_OF_FILE_1, 2, 2, PLAIN, PLAIN);
        leaves(TAGS_OF_FILE_1, 2, 2, BRANCH, BRANCH);
        leaves(TAGS_OF_FILE_1, 2, 0, PLAIN, PLAIN);
        leaves(TAGS_OF_FILE_1, 2, 0, BRANCH, BRANCH);
        leaves(TAGS_OF_FILE_1.then(update(2, 0, BRANCH)), 2, 0, NONE, BRANCH);
        leaves(DEAD, 2, 0, NONE, NONE);
        leaves(DEAD, 2, 0, UNSTICK, NONE);
        leaves(DEAD.then(update(2, 0, PLAIN)), 2, 0, UNSTICK, NONE);
        Story deadBranch = TAGS_OF_FILE_1.then(update(1, 1, BRANCH), remove(1, 1), commit(1, 1));
        leaves(deadBranch, 2, 1, BRANCH, BRANCH);
        leaves(deadBranch, 1, 1, NONE, BRANCH);
    }

    private static void noEntryAndARevision() {
        sentence("2, when there is no entry: it is the selected revision, with its text");
        fetches(ONE, 1, NONE, NONE, 0, 1);
        fetches(ONE, 1, UNSTICK, NONE, 0, 1);
        fetches(NEW.then(bring(0, 0)), 1, NONE, NONE, 1, 0);
        Story tagged = NEWER.then(plainTag(1, 0, PLAIN), branchTag(1, 0, BRANCH));
        fetches(tagged, 2, NONE, NONE, 1, 2);
        fetches(tagged, 2, PLAIN, PLAIN, 0, 1);
        fetches(tagged, 2, BRANCH, BRANCH, 0, 1);
        fetches(DEAD.then(add(0, 0, 7), commit(0, 0)), 2, NONE, NONE, 2, 7);
        Story trunkDead = DEAD.then(plainTag(1, 0, PLAIN));
        fetches(trunkDead, 2, PLAIN, PLAIN, 0, 1);
    }

    private static void addedAndARevision() {
        sentence("For an ADDED entry: 3, when the selected revision is there and not dead");
        Story added = TAGS_OF_FILE_1.then(add(1, 0, 2), add(1, 1, 2));
        refuses(added, update(1, 0, NONE), 3);
        refuses(added, update(1, 0, UNSTICK), 3);
        refuses(added, update(1, 1, PLAIN), 3);
        refuses(added, update(1, 1, BRANCH), 3);
        refuses(ONE.then(add(1, 0, 1)), update(1, 0, NONE), 3);
        Story stuck = added.then(update(1, 0, PLAIN));
        refuses(stuck, update(1, 0, UNSTICK), 3);
        Story givenLater = stuck.then(plainTag(0, 0, PLAIN));
        refuses(givenLater, update(1, 0, NONE), 3);
        refuses(NEW.then(bring(0, 1), add(1, 0, 2)), update(1, 0, NONE), 3);
    }

    private static void addedAndNothing() {
        sentence("For an ADDED entry: 0");
        leaves(NEW.then(add(1, 0, 2)), 1, 0, NONE, NONE);
        leaves(NEW.then(add(1, 0, 2)), 1, 0, UNSTICK, NONE);
        leaves(TAGS_OF_FILE_1.then(add(1, 2, 2)), 1, 2, PLAIN, PLAIN);
        leaves(TAGS_OF_FILE_1.then(add(1, 0, 2)), 1, 0, PLAIN, PLAIN);
        leaves(TAGS_OF_FILE_1.then(add(1, 0, 2)), 1, 0, BRANCH, BRANCH);
        leaves(DEAD.then(add(2, 0, 2)), 2, 0, NONE, NONE);
        leaves(DEAD.then(add(2, 0, 2), update(2, 0, BRANCH)), 2, 0, UNSTICK, NONE);
    }

    private static void removedAndNothing() {
        sentence("For a removed one: 1, when the selected revision is none or dead");
        Story removed = TAGS_OF_FILE_1.then(remove(0, 0));
        drops(removed, 0, 0, PLAIN, PLAIN);
        drops(removed, 0, 0, BRANCH, BRANCH);
        drops(DEAD.then(remove(1, 0)), 1, 0, NONE, NONE);
        drops(DEAD.then(remove(1, 0)), 1, 0, UNSTICK, NONE);
        drops(DEAD.then(edit(1, 0, 9), remove(1, 0)), 1, 0, NONE, NONE);
        drops(DEAD.then(edit(1, 0, 9), remove(1, 0)), 1, 0, PLAIN, PLAIN);
    }

    private static void removedAndARevision() {
        sentence("For a removed one: 0");
        leaves(ONE.then(remove(0, 0)), 0, 0, NONE, NONE);
        leaves(TAGS_OF_FILE_1.then(remove(0, 1)), 0, 1, PLAIN, PLAIN);
        leaves(TAGS_OF_FILE_1.then(remove(0, 1)), 0, 1, BRANCH, BRANCH);
        leaves(NEWER.then(remove(1, 0)), 1, 0, NONE, NONE);
        leaves(NEWER.then(remove(1, 0)), 1, 0, UNSTICK, NONE);
        leaves(NEWER.then(edit(1, 0, 9), remove(1, 0)), 1, 0, NONE, NONE);
        Story older = NEWER.then(branchTag(1, 0, BRANCH), remove(0, 0));
        leaves(older, 0, 0, BRANCH, BRANCH);
    }

    private static void notModifiedAndNothing() {
        sentence("1, when the entry is not modified: there is no entry any more");
        drops(TAGS_OF_FILE_1, 0, 0, PLAIN, PLAIN);
        drops(TAGS_OF_FILE_1, 0, 0, BRANCH, BRANCH);
        drops(DEAD, 1, 0, NONE, NONE);
        drops(DEAD, 1, 0, UNSTICK, NONE);
        drops(DEAD.then(edit(1, 0, 9), edit(1, 0, 1)), 1, 0, NONE, NONE);
        Story deadBranch = TAGS_OF_FILE_1.then(update(1, 1, BRANCH), update(2, 1, BRANCH),
            remove(1, 1), commit(1, 1));
        drops(deadBranch, 2, 1, NONE, BRANCH);
        drops(deadBranch, 0, 1, BRANCH, BRANCH);
    }

    private static void modifiedAndNothing() {
        sentence("3, when it is modified");
        Story modified = TAGS_OF_FILE_1.then(edit(0, 0, 9));
        refuses(modified, update(0, 0, PLAIN), 3);
        refuses(modified, update(0, 0, BRANCH), 3);
        refuses(DEAD.then(edit(1, 0, 9)), update(1, 0, NONE), 3);
        refuses(DEAD.then(edit(1, 0, 9)), update(1, 0, UNSTICK), 3);
        refuses(DEAD.then(edit(1, 0, 0)), update(1, 0, NONE), 3);
        refuses(DEAD.then(edit(1, 0, 17)), update(1, 0, NONE), 3);
        Story stuck = ONE.then(branchTag(0, 0, 1), update(1, 0, 1), edit(1, 0, 9), remove(0, 0),
            commit(0, 0));
        refuses(stuck, update(1, 0, UNSTICK), 3);
    }

    private static void sameRevision() {
        sentence("0, when it is the entry's");
        leaves(ONE, 0, 0, NONE, NONE);
        leaves(ONE, 0, 0, UNSTICK, NONE);
        leaves(ONE.then(edit(0, 0, 9)), 0, 0, NONE, NONE);
        leaves(ONE.then(edit(0, 0, 17)), 0, 0, NONE, NONE);
        leaves(TAGS_OF_FILE_1, 0, 1, PLAIN, PLAIN);
        leaves(TAGS_OF_FILE_1.then(edit(0, 1, 9)), 0, 1, BRANCH, BRANCH);
        Story stuck = TAGS_OF_FILE_1.then(update(1, 1, PLAIN), edit(0, 1, 2), commit(0, 1));
        leaves(stuck, 1, 1, NONE, PLAIN);
        leaves(stuck.then(edit(1, 1, 9)), 1, 1, BRANCH, BRANCH);
    }

    private static void notModifiedAndAnother() {
        sentence("2, when the entry is not modified: it is the selected revision, with its text");
        fetches(NEWER, 1, NONE, NONE, 1, 2);
        fetches(NEWER, 1, UNSTICK, NONE, 1, 2);
        fetches(NEWER.then(edit(1, 0, 9), edit(1, 0, 1)), 1, NONE, NONE, 1, 2);
        Story tagged = NEWER.then(plainTag(1, 0, PLAIN), branchTag(1, 0, BRANCH));
        fetches(tagged, 0, PLAIN, PLAIN, 0, 1);
        fetches(tagged, 0, BRANCH, BRANCH, 0, 1);
        Story sameText = NEW.then(bring(0, 5), update(1, 0, NONE), bring(0, 5));
        fetches(sameText, 1, NONE, NONE, 2, 5);
    }

    private static void modifiedAndAnother() {
        sentence("the local text becomes the merged one, and the entry is the selected revision");
        Story three = NEW.then(add(0, 0, text(1, 2, 3)), commit(0, 0), update(1, 0, NONE),
            plainTag(0, 0, PLAIN), edit(0, 0, text(1, 2, 4)), commit(0, 0),
            branchTag(0, 0, BRANCH));
        Story apart = three.then(edit(1, 0, text(5, 2, 3)));
        answers(apart, update(1, 0, NONE), 4);
        dueCopy(apart.then(update(1, 0, NONE)), 1, 0, 1, NO, text(5, 2, 4));
        answers(apart.then(update(1, 0, NONE)), sticky(1, 0), NONE);
        answers(apart, update(1, 0, BRANCH), 4);
        answers(apart.then(update(1, 0, BRANCH)), sticky(1, 0), BRANCH);
        answers(apart.then(update(1, 0, BRANCH)), entry(1, 0), 1);
        Story overlap = three.then(edit(1, 0, text(1, 2, 5)));
        answers(overlap, update(1, 0, NONE), 5);
        dueCopy(overlap.then(update(1, 0, NONE)), 1, 0, 1, NO, text(1, 2, 17, 5, 18, 4, 19));
        answers(overlap.then(update(1, 0, BRANCH)), sticky(1, 0), BRANCH);
        answers(overlap.then(update(1, 0, NONE)), update(1, 0, NONE), 0);
        Story backwards = three.then(edit(0, 0, text(5, 2, 4)));
        answers(backwards, update(0, 0, PLAIN), 4);
        dueCopy(backwards.then(update(0, 0, PLAIN)), 0, 0, 0, NO, text(5, 2, 3));
        Story alreadyThere = three.then(edit(1, 0, text(1, 2, 4)));
        answers(alreadyThere, update(1, 0, NONE), 4);
        dueCopy(alreadyThere.then(update(1, 0, NONE)), 1, 0, 1, NO, text(1, 2, 4));
    }

    private static void fullMergeChangesNothing() {
        sentence("With 3 and FULL nothing is changed, not even the sticky tag");
        Story story = NEW.then(bring(0, text(1, 2)), update(1, 0, NONE), branchTag(1, 0, 1),
            bring(0, repeated(3, MAX_LINES)), update(0, 0, NONE), plainTag(0, 0, PLAIN),
            branchTag(0, 0, BRANCH), edit(1, 0, 5));
        refuses(story, update(1, 0, NONE), FULL);
        refuses(story, update(1, 0, PLAIN), FULL);
        refuses(story, update(1, 0, BRANCH), FULL);
        refuses(story, update(1, 0, UNSTICK), FULL);
        Story stuck = story.then(update(1, 0, 1));
        refuses(stuck, update(1, 0, UNSTICK), FULL);
        refuses(stuck, update(1, 0, PLAIN), FULL);
        answers(stuck, update(1, 0, NONE), 0);
    }
}
