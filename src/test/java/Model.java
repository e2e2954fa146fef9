import java.util.ArrayDeque;
import java.util.ArrayList;
import java.util.Deque;
import java.util.HashSet;
import java.util.LinkedHashMap;
import java.util.List;
import java.util.Map;
import java.util.Set;

/** The document once more, written after its words alone and without regard to speed, to compare answers with. */
final class Model {
    private record Place(int x, int y) {
        Place to(int direction) {
            switch (direction) {
                case 0:
                    return new Place(x, y - 1);
                case 1:
                    return new Place(x + 1, y);
                case 2:
                    return new Place(x, y + 1);
                default:
                    return new Place(x - 1, y);
            }
        }

        boolean inside() {
            return x >= 0 && x <= 9 && y >= 0 && y <= 6;
        }
    }

    /** In what: "rock", "pond" or "wall"; a bare cell has no entry. */
    private record Thing(String what, int shape, int size) {
    }

    private static final class Carp {
        Place place;
        int size = 1;
        boolean sold = false;
    }

    private record Gate(Place place, int direction) {
    }

    private static final class Poet {
        int gate;
        int lines = 0;
    }

    private final Map<Place, Thing> things = new LinkedHashMap<>();
    private final List<Carp> carps = new ArrayList<>();
    private final List<Gate> gates = new ArrayList<>();
    private final List<Poet> poets = new ArrayList<>();
    private int coins = 100;
    private int day = 0;

    private Model copy() {
        Model other = new Model();
        other.things.putAll(things);
        for (Carp carp : carps) {
            Carp twin = new Carp();
            twin.place = carp.place;
            twin.size = carp.size;
            twin.sold = carp.sold;
            other.carps.add(twin);
        }
        other.gates.addAll(gates);
        for (Poet poet : poets) {
            Poet twin = new Poet();
            twin.gate = poet.gate;
            twin.lines = poet.lines;
            other.poets.add(twin);
        }
        other.coins = coins;
        other.day = day;
        return other;
    }

    private static void outsideIf(boolean wrong) {
        if (wrong) {
            throw new IndexOutOfBoundsException();
        }
    }

    private static void senselessIf(boolean wrong) {
        if (wrong) {
            throw new IllegalArgumentException();
        }
    }

    private static void untimelyIf(boolean wrong) {
        if (wrong) {
            throw new IllegalStateException();
        }
    }

    private static Place place(int x, int y) {
        Place place = new Place(x, y);
        outsideIf(!place.inside());
        return place;
    }

    private boolean holds(Place place, String what) {
        Thing thing = things.get(place);
        return thing != null && thing.what.equals(what);
    }

    private Set<Place> pond(Place from) {
        Set<Place> pond = new HashSet<>();
        Deque<Place> open = new ArrayDeque<>();
        open.push(from);
        while (!open.isEmpty()) {
            Place at = open.pop();
            if (holds(at, "pond") && pond.add(at)) {
                for (int direction = 0; direction < 4; direction++) {
                    open.push(at.to(direction));
                }
            }
        }
        return pond;
    }

    private int carpsIn(Set<Place> cells) {
        int many = 0;
        for (Carp carp : carps) {
            many += !carp.sold && cells.contains(carp.place) ? 1 : 0;
        }
        return many;
    }

    int rock(int x, int y, int shape, int size) {
        Place at = place(x, y);
        senselessIf(shape < 0 || shape > 5 || size < 1 || size > 9);
        untimelyIf(things.containsKey(at) || coins < 2 * size);
        coins -= 2 * size;
        things.put(at, new Thing("rock", shape, size));
        return coins;
    }

    int dig(int x, int y) {
        Place at = place(x, y);
        untimelyIf(things.containsKey(at) || coins < 6);
        coins -= 6;
        things.put(at, new Thing("pond", -1, 0));
        return pond(at).size();
    }

    int wall(int x, int y) {
        Place at = place(x, y);
        untimelyIf(things.containsKey(at) || coins < 3);
        coins -= 3;
        things.put(at, new Thing("wall", -1, 0));
        return coins;
    }

    int clear(int x, int y) {
        Place at = place(x, y);
        untimelyIf(!things.containsKey(at) || carpsIn(Set.of(at)) > 0);
        if (holds(at, "rock")) {
            coins += things.get(at).size;
        }
        things.remove(at);
        return coins;
    }

    int cell(int x, int y, int what) {
        Place at = place(x, y);
        outsideIf(what < 0 || what > 4);
        Thing thing = things.get(at);
        switch (what) {
            case 0:
                return thing == null ? 0 : List.of("rock", "pond", "wall").indexOf(thing.what) + 1;
            case 1:
                return thing == null ? -1 : thing.shape;
            case 2:
                return thing == null ? 0 : thing.size;
            case 3:
                return pond(at).size();
            default:
                return carpsIn(pond(at));
        }
    }

    int carp(int x, int y) {
        Place at = place(x, y);
        untimelyIf(!holds(at, "pond") || coins < 4 || carps.size() >= 30);
        coins -= 4;
        Carp carp = new Carp();
        carp.place = at;
        carps.add(carp);
        return carps.size() - 1;
    }

    private Carp carpOf(int number) {
        outsideIf(number < 0 || number >= carps.size());
        return carps.get(number);
    }

    int sell(int number) {
        Carp carp = carpOf(number);
        untimelyIf(carp.sold);
        carp.sold = true;
        coins += carp.size / 2 + 1;
        return coins;
    }

    int told(int number, int what) {
        Carp carp = carpOf(number);
        outsideIf(what < 0 || what > 4);
        int rank = 1;
        for (Carp other : carps) {
            rank += !other.sold && other.size > carp.size ? 1 : 0;
        }
        int[] answers = {carp.place.x, carp.place.y, carp.size, carp.sold ? 1 : 0, carp.sold ? 0 : rank};
        return answers[what];
    }

    int gate(int x, int y, int direction) {
        Place at = place(x, y);
        senselessIf(direction < 0 || direction > 3);
        untimelyIf(gates.size() >= 6);
        gates.add(new Gate(at, direction));
        return gates.size() - 1;
    }

    private void checkGate(int gate) {
        outsideIf(gate < 0 || gate >= gates.size());
    }

    private List<Place> shownBy(int gate) {
        List<Place> shown = new ArrayList<>();
        int direction = gates.get(gate).direction;
        Place at = gates.get(gate).place.to(direction);
        while (at.inside() && !holds(at, "wall")) {
            shown.add(at);
            if (holds(at, "rock") && things.get(at).size >= 7) {
                return shown;
            }
            at = at.to(direction);
        }
        return shown;
    }

    private int beauty(int gate) {
        int beauty = 0;
        List<Integer> shapes = new ArrayList<>();
        for (Place at : shownBy(gate)) {
            if (holds(at, "rock")) {
                Thing rock = things.get(at);
                beauty += rock.size + (shapes.contains(rock.shape) ? 0 : 4);
                shapes.add(rock.shape);
            }
            if (holds(at, "pond")) {
                int sizes = 0;
                for (Carp carp : carps) {
                    sizes += !carp.sold && carp.place.equals(at) ? carp.size : 0;
                }
                beauty += 3 + sizes / 10;
            }
        }
        return beauty;
    }

    int about(int gate, int what) {
        checkGate(gate);
        outsideIf(what < 0 || what > 4);
        List<Place> shown = shownBy(gate);
        int many = 0;
        switch (what) {
            case 0:
                return shown.size();
            case 1:
            case 2:
                for (Place at : shown) {
                    many += holds(at, what == 1 ? "rock" : "pond") ? 1 : 0;
                }
                return many;
            case 3:
                return beauty(gate);
            default:
                for (Poet poet : poets) {
                    many += poet.gate == gate ? 1 : 0;
                }
                return many;
        }
    }

    int invite(int gate) {
        checkGate(gate);
        untimelyIf(poets.size() >= 5);
        Poet poet = new Poet();
        poet.gate = gate;
        poets.add(poet);
        return poets.size() - 1;
    }

    int lead(int poet, int gate) {
        outsideIf(poet < 0 || poet >= poets.size());
        checkGate(gate);
        int before = poets.get(poet).gate;
        poets.get(poet).gate = gate;
        return before;
    }

    int lines(int poet) {
        outsideIf(poet < 0 || poet >= poets.size());
        return poets.get(poet).lines;
    }

    private int many(String what) {
        int many = 0;
        for (Thing thing : things.values()) {
            many += thing.what.equals(what) ? 1 : 0;
        }
        return many;
    }

    int count(int what) {
        outsideIf(what < 0 || what > 10);
        Set<Set<Place>> ponds = new HashSet<>();
        for (Place at : things.keySet()) {
            if (holds(at, "pond")) {
                ponds.add(pond(at));
            }
        }
        int here = 0;
        int sizes = 0;
        for (Carp carp : carps) {
            here += carp.sold ? 0 : 1;
            sizes += carp.sold ? 0 : carp.size;
        }
        int lines = 0;
        for (Poet poet : poets) {
            lines += poet.lines;
        }
        int[] answers = {day, day % 8 == 4 ? 1 : 0, coins, many("rock"), many("pond"), ponds.size(), here, sizes,
            gates.size(), poets.size(), lines};
        return answers[what];
    }

    private int letDayGo() {
        for (Carp carp : carps) {
            if (!carp.sold) {
                Set<Place> pond = pond(carp.place);
                boolean tooFull = carpsIn(pond) > 2 * pond.size();
                carp.size = tooFull ? Math.max(1, carp.size - 1) : Math.min(40, carp.size + 1);
            }
        }
        int written = 0;
        for (Poet poet : poets) {
            int lines = beauty(poet.gate) / 5;
            if (day % 8 == 4) {
                lines = lines * 2;
            }
            poet.lines += lines;
            written += lines;
        }
        coins += written / 10;
        day++;
        return written;
    }

    int pass(int days) {
        senselessIf(days < 1 || days > 60);
        int written = 0;
        for (int i = 0; i < days; i++) {
            written += letDayGo();
        }
        return written;
    }

    int foresee(int days, int what) {
        senselessIf(days < 1 || days > 60);
        outsideIf(what != 2 && what != 7 && what != 10);
        Model later = copy();
        later.pass(days);
        return later.count(what);
    }

    int advise(int gate, int shape, int size) {
        checkGate(gate);
        senselessIf(shape < 0 || shape > 5 || size < 1 || size > 9);
        int best = -1;
        int greatest = beauty(gate);
        for (int place = 0; place < 70; place++) {
            Place at = new Place(place % 10, place / 10);
            if (!things.containsKey(at)) {
                Model other = copy();
                other.things.put(at, new Thing("rock", shape, size));
                if (other.beauty(gate) > greatest) {
                    greatest = other.beauty(gate);
                    best = place;
                }
            }
        }
        return best;
    }

    int finest() {
        int best = -1;
        for (int gate = 0; gate < gates.size(); gate++) {
            if (best == -1 || beauty(gate) > beauty(best)) {
                best = gate;
            }
        }
        return best;
    }

    double mean() {
        double sum = 0;
        for (int gate = 0; gate < gates.size(); gate++) {
            sum += beauty(gate);
        }
        return gates.isEmpty() ? 0 : sum / gates.size();
    }

    long digest() {
        List<Integer> numbers = new ArrayList<>();
        for (int what = 0; what <= 10; what++) {
            numbers.add(count(what));
        }
        for (int place = 0; place < 70; place++) {
            for (int what = 0; what <= 4; what++) {
                numbers.add(cell(place % 10, place / 10, what));
            }
        }
        for (int carp = 0; carp < carps.size(); carp++) {
            for (int what = 0; what <= 4; what++) {
                numbers.add(told(carp, what));
            }
        }
        for (int gate = 0; gate < gates.size(); gate++) {
            for (int what = 0; what <= 4; what++) {
                numbers.add(about(gate, what));
            }
        }
        for (Poet poet : poets) {
            numbers.add(poet.lines);
        }
        long d = 1193;
        for (int number : numbers) {
            d = d * 31 + number;
        }
        return d;
    }
}
