import java.util.ArrayList;
import java.util.HashMap;
import java.util.List;
import java.util.Map;
import java.util.Optional;

/**
 * A slow and literal telling of the document, to compare the class with. Texts are lists of
 * lines, revisions and branches are objects, and the dotted numbers are written out.
 */
final class Model {
    private static final int NONE = -1;
    private static final int ADDED = -2;
    private static final int STICKY = -3;
    private static final int STALE = -4;
    private static final int UNCHANGED = -5;
    private static final int MARKED = -6;
    private static final int FULL = -7;

    private static final class Revision {
        final int index;
        final List<Integer> text;
        final boolean dead;
        final Branch branch;
        final List<Integer> number;

        Revision(int index, List<Integer> text, boolean dead, Branch branch, List<Integer> number) {
            this.index = index;
            this.text = text;
            this.dead = dead;
            this.branch = branch;
            this.number = number;
        }
    }

    private static final class Branch {
        final int index;
        final Revision point;
        final int magic;
        final List<Revision> revisions = new ArrayList<>();

        Branch(int index, Revision point, int magic) {
            this.index = index;
            this.point = point;
            this.magic = magic;
        }

        Revision headOrPoint() {
            return revisions.isEmpty() ? point : revisions.get(revisions.size() - 1);
        }
    }

    private static final class Archive {
        final List<Revision> revisions = new ArrayList<>();
        final List<Branch> branches = new ArrayList<>();
        final Map<Integer, Revision> plainTags = new HashMap<>();
        final Map<Integer, Branch> branchTags = new HashMap<>();
        Branch standard;

        Archive() {
            standard = new Branch(0, null, 0);
            branches.add(standard);
        }

        Branch vendor() {
            for (Branch branch : branches) {
                if (branch.magic == 1) {
                    return branch;
                }
            }
            return null;
        }

        Revision grow(Branch branch, List<Integer> text, boolean dead) {
            List<Integer> number = new ArrayList<>();
            if (branch.point == null) {
                number.add(1);
            } else {
                number.addAll(branch.point.number);
                number.add(branch.magic);
            }
            number.add(branch.revisions.size() + 1);
            Revision revision = new Revision(revisions.size(), text, dead, branch, number);
            revisions.add(revision);
            branch.revisions.add(revision);
            return revision;
        }

        Branch fork(Revision point, int magic) {
            Branch branch = new Branch(branches.size(), point, magic);
            branches.add(branch);
            return branch;
        }

        Branch fork(Revision point) {
            int magic = 2;
            while (isTaken(point, magic)) {
                magic += 2;
            }
            return fork(point, magic);
        }

        private boolean isTaken(Revision point, int magic) {
            for (Branch branch : branches) {
                if (branch.point == point && branch.magic == magic) {
                    return true;
                }
            }
            return false;
        }
    }

    private static final class Box {
        boolean added = false;
        Revision revision = null;
        boolean removed = false;
        List<Integer> local = null;
        Integer sticky = null;

        boolean hasEntry() {
            return added || revision != null;
        }

        void clear() {
            added = false;
            revision = null;
            removed = false;
            local = null;
        }

        void hold(Revision held, List<Integer> text) {
            clear();
            revision = held;
            local = text;
        }

        boolean isModified() {
            return !local.equals(revision.text);
        }
    }

    private final Map<Integer, Archive> archives = new HashMap<>();
    private final Map<List<Integer>, Box> boxes = new HashMap<>();
    private final Map<Integer, Boolean> branchSort = new HashMap<>();

    private static Optional<List<Integer>> parse(long number) {
        if (number < 0) {
            return Optional.empty();
        }
        String digits = number == 0 ? "" : Long.toString(number, 32);
        if (digits.length() > 12) {
            return Optional.empty();
        }
        List<Integer> lines = new ArrayList<>();
        for (char digit : digits.toCharArray()) {
            int line = Character.digit(digit, 32);
            if (line == 0 || line >= 20) {
                return Optional.empty();
            }
            lines.add(line);
        }
        return Optional.of(lines);
    }

    private static long print(List<Integer> lines) {
        long number = 0;
        for (int line : lines) {
            number = (number << 5) | line;
        }
        return number;
    }

    private static boolean marked(List<Integer> lines) {
        return lines.contains(17) || lines.contains(18) || lines.contains(19);
    }

    private static boolean isPlace(int client, int file) {
        return 0 <= client && client <= 2 && 0 <= file && file <= 3;
    }

    private Box box(int client, int file) {
        return boxes.computeIfAbsent(List.of(client, file), key -> new Box());
    }

    private Revision choose(Archive archive, Integer sticky) {
        if (archive == null) {
            return null;
        }
        if (sticky == null) {
            return archive.standard.headOrPoint();
        }
        if (branchSort.get(sticky)) {
            Branch branch = archive.branchTags.get(sticky);
            return branch == null ? null : branch.headOrPoint();
        }
        return archive.plainTags.get(sticky);
    }

    boolean add(int client, int file, long text) {
        Optional<List<Integer>> lines = parse(text);
        if (!isPlace(client, file) || box(client, file).hasEntry()
                || lines.isEmpty() || marked(lines.get())) {
            return false;
        }
        box(client, file).added = true;
        box(client, file).local = lines.get();
        return true;
    }

    boolean edit(int client, int file, long text) {
        Optional<List<Integer>> lines = parse(text);
        if (!isPlace(client, file) || box(client, file).local == null || lines.isEmpty()) {
            return false;
        }
        box(client, file).local = lines.get();
        return true;
    }

    boolean remove(int client, int file) {
        if (!isPlace(client, file)) {
            return false;
        }
        Box box = box(client, file);
        if (!box.hasEntry() || box.removed) {
            return false;
        }
        if (box.added) {
            box.clear();
        } else {
            box.removed = true;
            box.local = null;
        }
        return true;
    }

    int commit(int client, int file) {
        if (!isPlace(client, file) || !box(client, file).hasEntry()) {
            return NONE;
        }
        Box box = box(client, file);
        Archive archive = archives.get(file);
        if (box.sticky != null && !branchSort.get(box.sticky)) {
            return STICKY;
        }
        Revision selected = choose(archive, box.sticky);
        if (box.added && selected != null && !selected.dead) {
            return STALE;
        }
        if (box.revision != null && box.revision != selected) {
            return STALE;
        }
        if (box.revision != null && !box.removed && !box.isModified()) {
            return UNCHANGED;
        }
        if (box.local != null && marked(box.local)) {
            return MARKED;
        }
        int revisions = archive == null ? 0 : archive.revisions.size();
        int others = archive == null ? 0 : archive.branches.size() - 1;
        boolean given = box.sticky == null
            || archive != null && archive.branchTags.containsKey(box.sticky);
        revisions += archive == null && box.sticky != null ? 2 : 1;
        others += given ? 0 : 1;
        if (revisions > 24 || others > 5) {
            return FULL;
        }
        return commitTo(box, file);
    }

    private int commitTo(Box box, int file) {
        if (!archives.containsKey(file)) {
            archives.put(file, new Archive());
            if (box.sticky != null) {
                Archive made = archives.get(file);
                made.grow(made.branches.get(0), List.of(), true);
            }
        }
        Archive archive = archives.get(file);
        Branch trunk = archive.branches.get(0);
        Branch branch = trunk;
        if (box.sticky == null) {
            archive.standard = trunk;
        } else {
            if (!archive.branchTags.containsKey(box.sticky)) {
                archive.branchTags.put(box.sticky, archive.fork(trunk.headOrPoint()));
            }
            branch = archive.branchTags.get(box.sticky);
        }
        if (box.removed) {
            Revision grown = archive.grow(branch, box.revision.text, true);
            box.clear();
            return grown.index;
        }
        Revision grown = archive.grow(branch, box.local, false);
        box.hold(grown, box.local);
        return grown.index;
    }

    int update(int client, int file, int sticky) {
        if (!isPlace(client, file) || sticky < -1 || sticky > 5) {
            return NONE;
        }
        if (sticky >= 0 && sticky < 5 && !branchSort.containsKey(sticky)) {
            return NONE;
        }
        Box box = box(client, file);
        Integer old = box.sticky;
        if (sticky == 5) {
            box.sticky = null;
        } else if (sticky != -1) {
            box.sticky = sticky;
        }
        int answer = follow(box, choose(archives.get(file), box.sticky));
        if (answer == 3 || answer == FULL) {
            box.sticky = old;
        }
        return answer;
    }

    private static int follow(Box box, Revision selected) {
        boolean nothing = selected == null || selected.dead;
        if (!box.hasEntry() && nothing) {
            return 0;
        }
        if (!box.hasEntry()) {
            box.hold(selected, selected.text);
            return 2;
        }
        if (box.added) {
            return nothing ? 0 : 3;
        }
        if (box.removed) {
            if (nothing) {
                box.clear();
                return 1;
            }
            return 0;
        }
        if (nothing && !box.isModified()) {
            box.clear();
            return 1;
        }
        if (nothing) {
            return 3;
        }
        if (selected == box.revision) {
            return 0;
        }
        if (!box.isModified()) {
            box.hold(selected, selected.text);
            return 2;
        }
        List<Integer> merged = new ArrayList<>();
        boolean overlap = merge(box.revision.text, box.local, selected.text, merged);
        if (merged.size() > 12) {
            return FULL;
        }
        box.hold(selected, merged);
        return overlap ? 5 : 4;
    }

    /** The length of a longest common subsequence, row by row from the front. */
    private static int common(List<Integer> a, List<Integer> b) {
        int[] row = new int[b.size() + 1];
        for (int x : a) {
            int[] next = new int[b.size() + 1];
            for (int j = 0; j < b.size(); j++) {
                next[j + 1] = x == b.get(j) ? row[j] + 1 : Math.max(row[j + 1], next[j]);
            }
            row = next;
        }
        return row[b.size()];
    }

    private static <T> List<T> behind(List<T> row, int i) {
        return row.subList(i, row.size());
    }

    private static Map<Integer, Integer> pairs(List<Integer> a, List<Integer> b) {
        Map<Integer, Integer> pairs = new HashMap<>();
        int i = 0;
        int j = 0;
        while (i < a.size() && j < b.size()) {
            if (a.get(i).equals(b.get(j))) {
                pairs.put(i, j);
                i++;
                j++;
            } else if (common(behind(a, i + 1), behind(b, j))
                    >= common(behind(a, i), behind(b, j + 1))) {
                i++;
            } else {
                j++;
            }
        }
        return pairs;
    }

    private static int size(List<Integer> a, List<Integer> b) {
        return a.size() + b.size() - 2 * pairs(a, b).size();
    }

    /** The parts of a text between the lines at the given places. */
    private static List<List<Integer>> cut(List<Integer> text, List<Integer> places) {
        List<List<Integer>> parts = new ArrayList<>();
        int start = 0;
        for (int place : places) {
            parts.add(text.subList(start, place));
            start = place + 1;
        }
        parts.add(behind(text, start));
        return parts;
    }

    private static boolean merge(List<Integer> o, List<Integer> a, List<Integer> b,
            List<Integer> merged) {
        Map<Integer, Integer> withA = pairs(o, a);
        Map<Integer, Integer> withB = pairs(o, b);
        List<Integer> placesO = new ArrayList<>();
        List<Integer> placesA = new ArrayList<>();
        List<Integer> placesB = new ArrayList<>();
        for (int i = 0; i < o.size(); i++) {
            if (withA.containsKey(i) && withB.containsKey(i)) {
                placesO.add(i);
                placesA.add(withA.get(i));
                placesB.add(withB.get(i));
            }
        }
        List<List<Integer>> partsO = cut(o, placesO);
        List<List<Integer>> partsA = cut(a, placesA);
        List<List<Integer>> partsB = cut(b, placesB);
        boolean overlap = false;
        for (int p = 0; p < partsO.size(); p++) {
            if (partsA.get(p).equals(partsO.get(p))) {
                merged.addAll(partsB.get(p));
            } else if (partsB.get(p).equals(partsO.get(p))
                    || partsB.get(p).equals(partsA.get(p))) {
                merged.addAll(partsA.get(p));
            } else {
                overlap = true;
                merged.add(17);
                merged.addAll(partsA.get(p));
                merged.add(18);
                merged.addAll(partsB.get(p));
                merged.add(19);
            }
            if (p < placesO.size()) {
                merged.add(o.get(placesO.get(p)));
            }
        }
        return overlap;
    }

    boolean tag(int client, int file, int tag, boolean branch) {
        if (!isPlace(client, file) || tag < 0 || tag > 4 || box(client, file).revision == null) {
            return false;
        }
        if (branchSort.containsKey(tag) && branchSort.get(tag) != branch) {
            return false;
        }
        Archive archive = archives.get(file);
        Revision revision = box(client, file).revision;
        if (branch) {
            if (archive.branchTags.containsKey(tag) || archive.branches.size() - 1 == 5) {
                return false;
            }
            archive.branchTags.put(tag, archive.fork(revision));
        } else {
            archive.plainTags.put(tag, revision);
        }
        branchSort.put(tag, branch);
        return true;
    }

    int bring(int file, long text) {
        Optional<List<Integer>> lines = parse(text);
        if (!isPlace(0, file) || lines.isEmpty() || marked(lines.get())) {
            return NONE;
        }
        Archive archive = archives.get(file);
        if (archive == null) {
            archive = new Archive();
            archives.put(file, archive);
            Revision first = archive.grow(archive.standard, lines.get(), false);
            archive.standard = archive.fork(first, 1);
            return archive.grow(archive.standard, lines.get(), false).index;
        }
        if (archive.revisions.size() == 24
                || archive.vendor() == null && archive.branches.size() - 1 == 5) {
            return FULL;
        }
        if (archive.vendor() == null) {
            archive.fork(archive.branches.get(0).revisions.get(0), 1);
        }
        return archive.grow(archive.vendor(), lines.get(), false).index;
    }

    int entry(int client, int file) {
        if (!isPlace(client, file) || !box(client, file).hasEntry()) {
            return NONE;
        }
        return box(client, file).added ? ADDED : box(client, file).revision.index;
    }

    boolean removed(int client, int file) {
        return isPlace(client, file) && box(client, file).removed;
    }

    long local(int client, int file) {
        if (!isPlace(client, file) || box(client, file).local == null) {
            return NONE;
        }
        return print(box(client, file).local);
    }

    int selected(int client, int file) {
        if (!isPlace(client, file)) {
            return NONE;
        }
        Revision revision = choose(archives.get(file), box(client, file).sticky);
        return revision == null ? NONE : revision.index;
    }

    int sticky(int client, int file) {
        if (!isPlace(client, file) || box(client, file).sticky == null) {
            return NONE;
        }
        return box(client, file).sticky;
    }

    int revisions(int file) {
        if (!isPlace(0, file)) {
            return NONE;
        }
        return archives.containsKey(file) ? archives.get(file).revisions.size() : 0;
    }

    private Revision find(int file, int r) {
        return r < 0 || r >= revisions(file) ? null : archives.get(file).revisions.get(r);
    }

    int number(int file, int r, int i) {
        if (find(file, r) == null || i < 0) {
            return NONE;
        }
        List<Integer> number = find(file, r).number;
        return i < number.size() ? number.get(i) : 0;
    }

    long content(int file, int r) {
        return find(file, r) == null ? NONE : print(find(file, r).text);
    }

    boolean dead(int file, int r) {
        return find(file, r) != null && find(file, r).dead;
    }

    int kept(int file, int r) {
        Revision revision = find(file, r);
        if (revision == null) {
            return NONE;
        }
        List<Revision> row = revision.branch.revisions;
        int place = row.indexOf(revision);
        if (revision.branch.index == 0) {
            return place == row.size() - 1 ? revision.text.size()
                : size(row.get(place + 1).text, revision.text);
        }
        Revision before = place == 0 ? revision.branch.point : row.get(place - 1);
        return size(before.text, revision.text);
    }

    int named(int file, int tag) {
        Archive archive = archives.get(file);
        if (archive == null) {
            return NONE;
        }
        if (archive.plainTags.containsKey(tag)) {
            return archive.plainTags.get(tag).index;
        }
        return archive.branchTags.containsKey(tag) ? archive.branchTags.get(tag).index : NONE;
    }

    int standard(int file) {
        return archives.containsKey(file) ? archives.get(file).standard.index : NONE;
    }
}
