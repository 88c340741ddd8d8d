import java.util.function.LongPredicate;
import java.util.function.ToLongFunction;

/** One call of the face with its words; a boolean answer counts 1 or 0. */
final class Call {
    private final String words;
    private final ToLongFunction<RevisionStore> deed;
    private final LongPredicate accepted;

    Call(String words, ToLongFunction<RevisionStore> deed, LongPredicate accepted) {
        this.words = words;
        this.deed = deed;
        this.accepted = accepted;
    }

    String words() {
        return words;
    }

    long on(RevisionStore store) {
        return deed.applyAsLong(store);
    }

    /** The same call, which may be refused as well. */
    Call atWill() {
        return new Call(words, deed, answer -> true);
    }

    /** Whether the answer says that the call was not refused. */
    boolean isAccepted(long answer) {
        return accepted.test(answer);
    }
}
