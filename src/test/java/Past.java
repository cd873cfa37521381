import java.util.ArrayList;
import java.util.List;
import java.util.function.Consumer;

/** A state in which calls can be tried: the calls that lead to it, and all that can be asked behind them. */
final class Past {
    private final String name;
    private final Consumer<FoulRights> story;
    private final List<Probes.Probe> probes;
    private final List<String> answers = new ArrayList<>();

    Past(String name, Consumer<FoulRights> story) {
        this.name = name;
        this.story = story;
        probes = Probes.of(this);
        for (Probes.Probe probe : probes) {
            answers.add(answersOf(probe, object()));
        }
    }

    /** A new object in this state. */
    FoulRights object() {
        FoulRights x = new FoulRights();
        story.accept(x);
        return x;
    }

    /**
     * Empty if every probe answers behind the call as it does without it. Each probe gets an object of its own,
     * since some of them change it, and since an object is promised to answer 512 calls alone.
     */
    String changedBy(Consumer<FoulRights> call) {
        for (int i = 0; i < answers.size(); i++) {
            FoulRights x = object();
            call.accept(x);
            String got = answersOf(probes.get(i), x);
            if (!got.equals(answers.get(i))) {
                return "probe " + i + " " + firstDifference(got, answers.get(i));
            }
        }
        return "";
    }

    private static String answersOf(Probes.Probe probe, FoulRights x) {
        StringBuilder told = new StringBuilder();
        probe.ask(x, told);
        return told.toString();
    }

    private static String firstDifference(String got, String want) {
        String[] left = got.split(" ");
        String[] right = want.split(" ");
        int i = 0;
        while (i < left.length && i < right.length && left[i].equals(right[i])) {
            i++;
        }
        return "answer " + i + ": " + (i < left.length ? left[i] : "nothing")
            + " in place of " + (i < right.length ? right[i] : "nothing");
    }

    @Override
    public String toString() {
        return name;
    }
}
