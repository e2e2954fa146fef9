import java.util.List;

/** Gardens that tests begin with: each is made by the same calls every time, so that two of one kind are alike. */
final class Gardens {
    static final List<Check.Maker> EACH = List.of(MoonGate::new, Gardens::poor, Gardens::busy, Gardens::most);

    private Gardens() {
    }

    /** A bare garden with so many coins, 0 to 100: a rock bought and sold costs 1, a wall built and cleared 3. */
    static MoonGate withCoins(int coins) {
        MoonGate m = new MoonGate();
        spendDownTo(m, 100, coins);
        return m;
    }

    private static void spendDownTo(MoonGate m, int from, int coins) {
        int left = from;
        while (left > coins) {
            if ((left - coins) % 3 == 0) {
                m.wall(9, 6);
                left -= 3;
            } else {
                m.rock(9, 6, 0, 1);
                left -= 1;
            }
            m.clear(9, 6);
        }
    }

    /** A bare garden with at least so many coins, which 5 poets at the gate 0 earned by a rock that is sold then. */
    static MoonGate rich(int coins) {
        MoonGate m = new MoonGate();
        m.gate(0, 0, 1);
        for (int poet = 0; poet < 5; poet++) {
            m.invite(0);
        }
        m.rock(1, 0, 0, 6);
        for (int i = 0; i < 30 && m.count(2) < coins; i++) {
            m.pass(60);
        }
        m.clear(1, 0);
        return m;
    }

    /** A coin is left; there are a rock, a wall, a pond, a carp, another that is sold, and no gate. */
    static MoonGate poor() {
        MoonGate m = new MoonGate();
        m.dig(4, 2);
        m.carp(4, 2);
        m.carp(4, 2);
        m.rock(0, 2, 2, 1);
        m.wall(9, 0);
        m.sell(0);
        spendDownTo(m, 100 - 6 - 4 - 4 - 2 - 3 + 1, 1);
        return m;
    }

    /** A garden with something of all, and room and coins for more. */
    static MoonGate busy() {
        MoonGate m = new MoonGate();
        m.dig(3, 0);
        m.dig(4, 0);
        m.dig(4, 2);
        m.rock(5, 0, 1, 6);
        m.rock(6, 0, 2, 4);
        m.wall(9, 2);
        for (int i = 0; i < 3; i++) {
            m.carp(3, 0);
            m.carp(4, 2);
        }
        m.gate(0, 0, 1);
        m.gate(4, 6, 0);
        m.gate(9, 3, 3);
        for (int poet = 0; poet < 4; poet++) {
            m.invite(poet % 2);
        }
        m.pass(3);
        m.sell(2);
        return m;
    }

    /** No cell is bare; there are 30 carps, of which two are sold, 6 gates, 5 poets, and many coins. */
    static MoonGate most() {
        MoonGate m = rich(700);
        for (int gate = 1; gate < 6; gate++) {
            m.gate(2 * gate - 1, gate, gate % 4);
        }
        for (int poet = 1; poet < 5; poet++) {
            m.lead(poet, poet);
        }
        for (int place = 0; place < 70; place++) {
            if (place >= 40 && place < 55) {
                m.dig(place % 10, place / 10);
            } else if (place % 4 == 3) {
                m.wall(place % 10, place / 10);
            } else {
                m.rock(place % 10, place / 10, place % 6, 1 + place % 7);
            }
        }
        for (int carp = 0; carp < 30; carp++) {
            m.carp(carp % 10, 4);
        }
        m.pass(20);
        m.sell(0);
        m.sell(29);
        return m;
    }

    /** Each poet is at a gate of its own, and writes so many lines a day, but twice these at full moon. */
    static MoonGate writing(int... lines) {
        MoonGate m = new MoonGate();
        for (int poet = 0; poet < lines.length; poet++) {
            m.gate(0, poet, 1);
            m.invite(poet);
            for (int shape = 0; shape < lines[poet]; shape++) {
                m.rock(1 + shape, poet, shape, 1);
            }
        }
        return m;
    }

    /** How many carps came in all, which no call tells at once. */
    static int carpsThatCame(MoonGate m) {
        for (int carp = 0; carp < 40; carp++) {
            try {
                m.told(carp, 0);
            } catch (IndexOutOfBoundsException e) {
                return carp;
            }
        }
        return 40;
    }
}
