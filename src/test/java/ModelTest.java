import java.util.Map;
import java.util.Random;
import java.util.TreeMap;

/** Random runs of at most 512 calls (by fixed seeds), each answer compared with the model's. */
public final class ModelTest {
    private static final int RUNS = 4000;
    private static final int CALLS = 512;

    private static final Check CHECK = new Check();
    /** How often each kind of answer was seen, so that a run that reaches little is noticed. */
    private static final Map<String, Integer> SEEN = new TreeMap<>();

    private final Random random;
    private final int files;
    private final int clients;
    private final int lines;
    private final int longest;
    /** Of a hundred calls so many look, and of a hundred moves so many bring or remove or tag. */
    private final int looks;
    private final int brings;
    private final int removals;
    private final int tags;
    private final RevisionStore store = new RevisionStore();
    private final Model model = new Model();
    private String trail = "";

    private ModelTest(int seed) {
        random = new Random(seed);
        files = 1 + random.nextInt(random.nextBoolean() ? 1 : 4);
        clients = 1 + random.nextInt(3);
        lines = 2 + random.nextInt(15);
        longest = 3 + random.nextInt(10);
        looks = 20 + random.nextInt(50);
        brings = random.nextInt(10);
        removals = random.nextInt(12);
        tags = random.nextInt(12);
    }

    public static void main(String[] args) {
        for (int seed = 0; seed < RUNS; seed++) {
            new ModelTest(seed).run(seed);
        }
        String[] musts = {"commit -1", "commit -3", "commit -4", "commit -5", "commit -6",
            "commit -7", "commit ok", "update -1", "update -7", "update 0", "update 1",
            "update 2", "update 3", "update 4", "update 5", "bring -1", "bring -7", "bring ok"};
        for (String must : musts) {
            CHECK.yes("seen often enough: " + must, SEEN.getOrDefault(must, 0) >= 100);
        }
        CHECK.end();
    }

    private void run(int seed) {
        trail = "seed " + seed + ": ";
        for (int i = 0; i < CALLS; i++) {
            if (isDrawn(looks)) {
                look();
            } else {
                move();
            }
        }
    }

    private boolean isDrawn(int ofHundred) {
        return random.nextInt(100) < ofHundred;
    }

    private int oddInt(int below) {
        int[] odd = {-1, below, -2, Integer.MIN_VALUE, Integer.MAX_VALUE};
        return random.nextInt(60) == 0 ? odd[random.nextInt(odd.length)] : random.nextInt(below);
    }

    private int client() {
        int client = oddInt(3);
        return client >= 0 && client < 3 ? client % clients : client;
    }

    private int file() {
        int file = oddInt(4);
        return file >= 0 && file < 4 ? file % files : file;
    }

    private long text() {
        int kind = random.nextInt(60);
        if (kind == 0) {
            return random.nextLong();
        }
        if (kind == 1) {
            return random.nextInt(2000) - 100;
        }
        long number = 0;
        int count = random.nextInt(longest + 1);
        for (int i = 0; i < count; i++) {
            number = number * 32 + 1 + random.nextInt(lines);
        }
        if (kind == 2) {
            number = number * 32 + 16 + random.nextInt(5);
        }
        return number;
    }

    /** A client's text with one line put in, taken out or changed, as people edit. */
    private long nearText(int client, int file) {
        long old = model.local(client, file);
        if (old < 0 || isDrawn(5)) {
            return text();
        }
        int shift = 5 * random.nextInt(12);
        long high = (old >> shift) >> 5;
        long middle = (old >> shift) & 31;
        long low = old & ((1L << shift) - 1);
        long line = 1 + random.nextInt(lines);
        switch (random.nextInt(3)) {
            case 0:
                return (high << shift) | low;
            case 1:
                return (((high << 5) | line) << shift) | low;
            default:
                return (((((high << 5) | middle) << 5) | line) << shift) | low;
        }
    }

    private int stickyWish() {
        int kind = random.nextInt(10);
        if (kind < 6) {
            return -1;
        }
        return kind < 8 ? 5 : oddInt(7);
    }

    private void move() {
        int client = client();
        int file = file();
        String place = trail + "(" + client + ", " + file + ") ";
        if (isDrawn(brings)) {
            long text = text();
            count(place, "bring", store.bring(file, text), model.bring(file, text), true);
        } else if (isDrawn(removals)) {
            CHECK.due(place + "remove", store.remove(client, file), model.remove(client, file));
        } else if (isDrawn(tags)) {
            moveTag(client, file, place);
        } else if (isDrawn(30)) {
            int wish = stickyWish();
            count(place + wish, "update", store.update(client, file, wish),
                model.update(client, file, wish), false);
        } else if (isDrawn(40)) {
            count(place, "commit", store.commit(client, file), model.commit(client, file), true);
        } else if (model.entry(client, file) == RevisionStore.NONE || isDrawn(3)) {
            long text = text();
            CHECK.due(place + "add " + text, store.add(client, file, text),
                model.add(client, file, text));
        } else {
            long text = nearText(client, file);
            CHECK.due(place + "edit " + text, store.edit(client, file, text),
                model.edit(client, file, text));
        }
    }

    private void moveTag(int client, int file, String place) {
        int tag = oddInt(5);
        boolean branch = tag % 2 == 0 ^ isDrawn(12);
        CHECK.due(place + "tag " + tag, store.tag(client, file, tag, branch),
            model.tag(client, file, tag, branch));
    }

    private void count(String place, String call, int got, int want, boolean lump) {
        CHECK.due(place + call, got, want);
        SEEN.merge(call + " " + (lump && want >= 0 ? "ok" : want), 1, Integer::sum);
    }

    private int revision(int file) {
        return oddInt(Math.max(1, model.revisions(file)));
    }

    private void look() {
        int client = client();
        int file = file();
        int r = revision(file);
        int i = oddInt(13);
        int tag = oddInt(5);
        String place = trail + "(" + client + ", " + file + ", " + r + ", " + i + ", " + tag + ") ";
        switch (random.nextInt(12)) {
            case 0:
                CHECK.due(place + "entry", store.entry(client, file), model.entry(client, file));
                break;
            case 1:
                CHECK.due(place + "removed",
                    store.removed(client, file), model.removed(client, file));
                break;
            case 2:
                CHECK.due(place + "local", store.local(client, file), model.local(client, file));
                break;
            case 3:
                CHECK.due(place + "selected",
                    store.selected(client, file), model.selected(client, file));
                break;
            case 4:
                CHECK.due(place + "sticky", store.sticky(client, file), model.sticky(client, file));
                break;
            case 5:
                CHECK.due(place + "revisions", store.revisions(file), model.revisions(file));
                break;
            case 6:
                CHECK.due(place + "number", store.number(file, r, i), model.number(file, r, i));
                break;
            case 7:
                CHECK.due(place + "content", store.content(file, r), model.content(file, r));
                break;
            case 8:
                CHECK.due(place + "dead", store.dead(file, r), model.dead(file, r));
                break;
            case 9:
                CHECK.due(place + "kept", store.kept(file, r), model.kept(file, r));
                break;
            case 10:
                CHECK.due(place + "named", store.named(file, tag), model.named(file, tag));
                break;
            default:
                CHECK.due(place + "standard", store.standard(file), model.standard(file));
        }
    }
}
