import java.util.ArrayList;
import java.util.List;

/** A run of calls on a new object, that shows one sentence of the document. */
final class Run {
    private final Due due;
    private final String sentence;
    private final EveryMapWrong x = new EveryMapWrong();
    private final List<String> calls = new ArrayList<>();

    private Run(Due due, String sentence) {
        this.due = due;
        this.sentence = sentence;
    }

    static Run of(Due due, String sentence, String... first) {
        return new Run(due, sentence).does(first);
    }

    /** Calls that only lead to where the sentence is about; none of them is refused. */
    Run does(String... more) {
        for (String call : more) {
            int answer = answerTo(call);
            due.isTrue(sentence + ": " + call + " is not refused, but answered " + answer, answer >= -1);
        }
        return this;
    }

    Run is(String call, long want) {
        due.is(sentence + ": " + call + at(), answerTo(call), want);
        return this;
    }

    /** A call that is refused, or only asks: beside what it answers, it leaves everything as it was. */
    Run leaves(String call, long want) {
        for (int part = 0; part < Probe.PARTS; part++) {
            EveryMapWrong without = again();
            EveryMapWrong with = again();
            due.is(sentence + ": " + call + at(), Calls.on(with, call), want);
            due.isTrue(sentence + ": " + call + at() + " changes what part " + part + " of Probe asks",
                Probe.ask(with, part).equals(Probe.ask(without, part)));
        }
        return is(call, want);
    }

    private EveryMapWrong again() {
        EveryMapWrong other = new EveryMapWrong();
        for (String call : calls) {
            Calls.on(other, call);
        }
        return other;
    }

    private int answerTo(String call) {
        calls.add(call);
        return Calls.on(x, call);
    }

    private String at() {
        return " (call " + calls.size() + ")";
    }
}
