import java.util.ArrayList;
import java.util.List;

/** Later calls, which show all that a garden holds: what it tells, where gates and poets are, and how it goes on. */
final class Later {
    private final MoonGate garden;
    private final List<String> answers = new ArrayList<>();

    private Later(MoonGate garden) {
        this.garden = garden;
    }

    static List<String> answers(MoonGate garden) {
        Later later = new Later(garden);
        later.asIs();
        later.withMore();
        later.withLess();
        return later.answers;
    }

    private void ask(String name, Check.Call call) {
        String answer;
        try {
            answer = String.valueOf(call.on(garden));
        } catch (RuntimeException e) {
            answer = e.getClass().getSimpleName();
        }
        answers.add(name + ": " + answer);
    }

    /** The digest, which asks most, comes last: if asking changed something, it would do so in both gardens. */
    private void asIs() {
        ask("mean", MoonGate::mean);
        ask("finest", MoonGate::finest);
        for (int days : new int[] {1, 5, 60}) {
            ask("foresee coins", m -> m.foresee(days, 2));
            ask("foresee sizes", m -> m.foresee(days, 7));
            ask("foresee lines", m -> m.foresee(days, 10));
        }
        adviseAll();
        ask("digest", MoonGate::digest);
        for (int poet = 0; poet < 6; poet++) {
            int other = poet;
            ask("lead", m -> m.lead(other, 0));
        }
        ask("pass", m -> m.pass(5));
        ask("digest after days", MoonGate::digest);
    }

    private void adviseAll() {
        for (int gate = 0; gate < 6; gate++) {
            int other = gate;
            ask("advise", m -> m.advise(other, 0, 1));
        }
    }

    private void withMore() {
        ask("carp", m -> m.carp(4, 2));
        ask("gate", m -> m.gate(9, 6, 0));
        ask("invite", m -> m.invite(0));
        ask("dig", m -> m.dig(2, 0));
        ask("carp", m -> m.carp(2, 0));
        ask("rock", m -> m.rock(0, 3, 1, 1));
        ask("pass", m -> m.pass(1));
        ask("digest with more", MoonGate::digest);
    }

    private void withLess() {
        for (int carp = 0; carp < 31; carp++) {
            int other = carp;
            ask("sell", m -> m.sell(other));
        }
        for (int place = 0; place < 70; place++) {
            int x = place % 10;
            int y = place / 10;
            ask("clear", m -> m.clear(x, y));
        }
        adviseAll();
        ask("digest of what is left", MoonGate::digest);
    }
}
