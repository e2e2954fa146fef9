import java.util.ArrayList;
import java.util.List;

/** Later calls, which show all that a garden holds: what it tells, where gates and poets are, and how it goes on. */
final class Later {
    private record Question(String name, Check.Call call) {
    }

    private static final List<Question> QUESTIONS = questions();

    private final MoonGate garden;
    private final List<String> answers = new ArrayList<>();

    private Later(MoonGate garden) {
        this.garden = garden;
    }

    /** Backwards too, for a question that itself changed something would hide such a change from those behind it. */
    static List<String> answers(MoonGate garden, boolean backwards) {
        Later later = new Later(garden);
        later.asIs(backwards);
        later.withMore();
        later.withLess();
        return later.answers;
    }

    private static List<Question> questions() {
        List<Question> questions = new ArrayList<>();
        questions.add(new Question("digest", MoonGate::digest));
        questions.add(new Question("mean", MoonGate::mean));
        questions.add(new Question("finest", MoonGate::finest));
        for (int days : new int[] {1, 5, 60}) {
            for (int what : new int[] {2, 7, 10}) {
                questions.add(new Question("foresee " + what, m -> m.foresee(days, what)));
            }
        }
        for (int gate = 0; gate < 6; gate++) {
            int one = gate;
            questions.add(new Question("advise", m -> m.advise(one, 0, 1)));
        }
        return questions;
    }

    private void ask(String name, Check.Call call) {
        String answer;
        try {
            answer = String.valueOf(call.on(garden));
        } catch (RuntimeException e) {
            answer = e.getClass().getSimpleName();
        }
        answers.add(name + ": " + answer);
    }

    private void askAll(boolean backwards) {
        int many = QUESTIONS.size();
        for (int i = 0; i < many; i++) {
            Question question = QUESTIONS.get(backwards ? many - 1 - i : i);
            ask(question.name(), question.call());
        }
    }

    private void asIs(boolean backwards) {
        askAll(backwards);
        for (int poet = 0; poet < 6; poet++) {
            int one = poet;
            ask("lead", m -> m.lead(one, 0));
        }
        ask("pass", m -> m.pass(5));
        ask("digest after days", MoonGate::digest);
    }

    private void withMore() {
        ask("carp", m -> m.carp(4, 2));
        ask("gate", m -> m.gate(9, 6, 0));
        ask("invite", m -> m.invite(0));
        ask("dig", m -> m.dig(2, 0));
        ask("carp", m -> m.carp(2, 0));
        ask("rock", m -> m.rock(0, 3, 1, 1));
        ask("pass", m -> m.pass(1));
        ask("digest with more", MoonGate::digest);
    }

    private void withLess() {
        for (int carp = 0; carp < 31; carp++) {
            int one = carp;
            ask("sell", m -> m.sell(one));
        }
        for (int place = 0; place < 70; place++) {
            int x = place % 10;
            int y = place / 10;
            ask("clear", m -> m.clear(x, y));
        }
        askAll(false);
    }
}
