import java.util.ArrayList;
import java.util.List;
import java.util.function.IntFunction;

/**
 * A run of calls on one new object, under the sentence of the document that it tests. Of a refused call it also
 * shows that it does nothing: two objects with the same run, one with and one without the refused call, answer alike.
 */
final class Run {
    private static final int MOST_CALLS = 512;
    private static final int FOLLOWING = 12;

    private final String sentence;
    private final ThenTables object = new ThenTables();
    private final List<Call> taken = new ArrayList<>();
    private int calls = 0;

    Run(String sentence, String... tellings) {
        this.sentence = sentence;
        tell(tellings);
    }

    /** Calls that are no more than the setting of the test: each has to be taken. */
    Run tell(String... tellings) {
        for (String text : tellings) {
            Call call = Call.of(text);
            Check.due(sentence + ": " + call + " is taken", call.isTaken(ask(call)), true);
            taken.add(call);
        }
        return this;
    }

    /** A telling for each number from 'from' up to 'to', 'to' not counted. */
    Run tellEach(int from, int to, IntFunction<String> telling) {
        for (int i = from; i < to; i++) {
            tell(telling.apply(i));
        }
        return this;
    }

    Run due(String text, long want) {
        Call call = Call.of(text);
        long got = ask(call);
        Check.due(sentence + ": " + call, got, want);
        if (call.tells() && call.isTaken(got)) {
            taken.add(call);
        }
        return this;
    }

    Run due(String text, boolean want) {
        return due(text, want ? 1 : 0);
    }

    Run refused(String text, long want) {
        Call call = Call.of(text);
        Check.due(sentence + ": " + call, ask(call), want);
        doesNothing(call);
        return this;
    }

    Run refused(String text, boolean want) {
        return refused(text, want ? 1 : 0);
    }

    /** A call that asks does nothing: shown question by question, as one that did would hide in earlier ones. */
    Run asks(String text) {
        for (Call question : Questions.about(again())) {
            alike(Call.of(text), List.of(question));
        }
        return this;
    }

    private long ask(Call call) {
        calls++;
        if (calls == MOST_CALLS + 1) {
            Check.due(sentence + ": calls of one run", calls, MOST_CALLS);
        }
        return call.on(object);
    }

    private ThenTables again() {
        ThenTables x = new ThenTables();
        for (Call call : taken) {
            call.on(x);
        }
        return x;
    }

    /** Asked in parts, each of two new objects, since no object may get more than 512 calls. */
    private void doesNothing(Call refused) {
        List<Call> questions = Questions.about(again());
        List<Call> following = Questions.tellingsBehind(again());
        int room = MOST_CALLS - taken.size() - 1 - FOLLOWING;
        for (int at = 0; at < questions.size(); at += room) {
            List<Call> part = questions.subList(at, Math.min(questions.size(), at + room));
            alike(refused, part);
            List<Call> later = new ArrayList<>(following);
            later.addAll(part);
            alike(refused, later);
        }
    }

    private void alike(Call idle, List<Call> questions) {
        ThenTables without = again();
        ThenTables with = again();
        idle.on(with);
        for (Call q : questions) {
            long want = q.on(without);
            Check.due(sentence + ": " + q + " behind " + idle, q.on(with), want);
        }
    }
}
