import java.util.ArrayList;
import java.util.List;

/** A run of calls that can be told again, each time on a new store. */
final class Story {
    private final List<Call> calls;

    Story() {
        this(List.of());
    }

    private Story(List<Call> calls) {
        this.calls = calls;
    }

    /** The story with calls behind it that must be accepted, lest a test rest on nothing. */
    Story then(Call... more) {
        List<Call> all = new ArrayList<>(calls);
        all.addAll(List.of(more));
        return new Story(all);
    }

    /** The story with a call behind it that may be refused. */
    Story tried(Call call) {
        return then(call.atWill());
    }

    int length() {
        return calls.size();
    }

    RevisionStore told() {
        RevisionStore store = new RevisionStore();
        for (Call call : calls) {
            call.on(store);
        }
        return store;
    }

    /** The first call that was refused though it must be accepted, or null. */
    String flaw() {
        RevisionStore store = new RevisionStore();
        for (Call call : calls) {
            long answer = call.on(store);
            if (!call.isAccepted(answer)) {
                return call.words() + " answered " + answer;
            }
        }
        return null;
    }

    @Override
    public String toString() {
        StringBuilder words = new StringBuilder();
        for (Call call : calls) {
            words.append(call.words()).append("; ");
        }
        return words.toString();
    }
}
