import java.util.ArrayList;
import java.util.List;

/** Compares answers with those that are due, and ends a test. */
final class Check {
    private static final int MOST_CALLS = 512;
    private static final long MOST_SECONDS = 300;

    private final String promise;
    private int wrong;

    /** The promise's name stands before each fault that is told. */
    Check(String promise) {
        this.promise = promise;
        Thread watch = new Thread(this::endLate);
        watch.setDaemon(true);
        watch.start();
    }

    /**
     * Runs a script's lines on a new desk, and on the model, and compares each answer. Of each call that is
     * refused or only reads it also looks whether the desk is as it was, and of each call that is torn
     * whether all is as it was before once the desk is mounted.
     */
    void script(String sentence, String text) {
        TrialDesk desk = new TrialDesk();
        Model model = new Model();
        List<String> done = new ArrayList<>();
        List<String> seen = null;
        List<Line> lines = Line.all(text);
        due(sentence + ": calls that an object is used for", lines.size() <= MOST_CALLS, true);
        for (Line line : lines) {
            due(sentence + ": " + line.call(), Calls.answer(desk, line.call()), line.answer());
            due(sentence + ": the model's " + line.call(), model.answer(line.call()), line.answer());
            if (line.changesNothing()) {
                seen = seen == null ? Probe.of(done) : seen;
                same(sentence + ": behind " + line.call(), Probe.of(with(done, line.call())), seen);
                continue;
            }
            if (line.isTorn()) {
                List<String> mounted = with(with(done, line.call()), "mount");
                same(sentence + ": behind a torn " + line.call(), Probe.of(mounted), Probe.of(withoutTear(done)));
            }
            done.add(line.call());
            seen = null;
        }
    }

    void due(String what, Object got, Object want) {
        if (!String.valueOf(got).equals(String.valueOf(want))) {
            wrong++;
            System.out.println(promise + ", " + what + " answered " + got + ", due is " + want);
        }
    }

    void end() {
        System.out.println(wrong == 0 ? "all answers are as due" : wrong + " answers are not as due");
        if (wrong != 0) {
            System.exit(1);
        }
    }

    /** A call that does not end must fail the test, not keep it for ever. */
    private void endLate() {
        try {
            Thread.sleep(MOST_SECONDS * 1000);
        } catch (InterruptedException e) {
            return;
        }
        System.out.println(promise + ", a call has not ended after " + MOST_SECONDS + " seconds");
        Runtime.getRuntime().halt(1);
    }

    private void same(String what, List<String> got, List<String> want) {
        for (int i = 0; i < want.size(); i++) {
            if (!got.get(i).equals(want.get(i))) {
                due(what, got.get(i), want.get(i));
                return;
            }
        }
    }

    private static List<String> with(List<String> calls, String last) {
        List<String> more = new ArrayList<>(calls);
        more.add(last);
        return more;
    }

    private static List<String> withoutTear(List<String> calls) {
        List<String> less = new ArrayList<>(calls);
        int from = Math.max(0, less.lastIndexOf("mount"));
        less.subList(from, less.size()).removeIf(call -> call.equals("tear"));
        return less;
    }
}
