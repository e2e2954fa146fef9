/** Gardeners of a garden with moon gates. */
public final class MoonGate {
    private static final int NONE = -1;
    private static final int MOST_CARPS = 30;
    private static final int MOST_GATES = 6;
    private static final int MOST_POETS = 5;
    private static final int MOST_DAYS = 60;
    private static final int FIRST_COINS = 100;
    private static final int POND_PRICE = 6;
    private static final int WALL_PRICE = 3;
    private static final int CARP_PRICE = 4;
    private static final int LINES_FOR_A_COIN = 10;

    private static final int COINS = 2;
    private static final int CARP_SIZES = 7;
    private static final int ALL_LINES = 10;

    private static final int CELL_ANSWERS = 5;
    private static final int TOLD_ANSWERS = 5;
    private static final int ABOUT_ANSWERS = 5;
    private static final int COUNT_ANSWERS = 11;

    private final Garden garden;
    private final Shoal shoal;
    private final Gates gates;
    private final Poets poets;
    private final Course now;
    private final Course ahead;
    private final View view;

    public MoonGate() {
        garden = new Garden();
        shoal = new Shoal();
        gates = new Gates();
        poets = new Poets();
        now = new Course();
        ahead = new Course();
        view = new View();
    }

    // ---- garden

    public int rock(int x, int y, int shape, int size)
            throws IndexOutOfBoundsException, IllegalArgumentException, IllegalStateException {
        checkPlace(x, y);
        checkRock(shape, size);
        int place = Garden.numberOf(x, y);
        checkBare(place);
        spend(2 * size);
        garden.setRock(place, shape, size);
        return now.coins;
    }

    public int dig(int x, int y) throws IndexOutOfBoundsException, IllegalStateException {
        checkPlace(x, y);
        int place = Garden.numberOf(x, y);
        checkBare(place);
        spend(POND_PRICE);
        garden.setPond(place);
        return garden.cellsOfPondAt(place);
    }

    public int wall(int x, int y) throws IndexOutOfBoundsException, IllegalStateException {
        checkPlace(x, y);
        int place = Garden.numberOf(x, y);
        checkBare(place);
        spend(WALL_PRICE);
        garden.setWall(place);
        return now.coins;
    }

    public int clear(int x, int y) throws IndexOutOfBoundsException, IllegalStateException {
        checkPlace(x, y);
        int place = Garden.numberOf(x, y);
        if (garden.isBare(place)) {
            throw new IllegalStateException("the cell is bare");
        }
        if (garden.hasCarps(place)) {
            throw new IllegalStateException("carps are in the cell");
        }
        // A pond cell and a wall have the size 0, so that only a rock brings coins.
        now.coins += garden.sizeAt(place);
        garden.setBare(place);
        return now.coins;
    }

    public int cell(int x, int y, int what) throws IndexOutOfBoundsException {
        checkPlace(x, y);
        checkWhat(what, CELL_ANSWERS);
        int place = Garden.numberOf(x, y);
        switch (what) {
            case 0:
                return garden.kindAt(place);
            case 1:
                return garden.shapeAt(place);
            case 2:
                return garden.sizeAt(place);
            case 3:
                return garden.cellsOfPondAt(place);
            default:
                return garden.carpsOfPondAt(place);
        }
    }

    // ---- carps

    public int carp(int x, int y) throws IndexOutOfBoundsException, IllegalStateException {
        checkPlace(x, y);
        int place = Garden.numberOf(x, y);
        if (!garden.isPond(place)) {
            throw new IllegalStateException("the cell is no pond");
        }
        if (shoal.came >= MOST_CARPS) {
            throw new IllegalStateException("there were 30 carps");
        }
        spend(CARP_PRICE);
        int number = shoal.add(place);
        now.setCarpSize(number, Course.LEAST_SIZE);
        garden.changeCarps(place, 1);
        return number;
    }

    public int sell(int carp) throws IndexOutOfBoundsException, IllegalStateException {
        checkCarp(carp);
        if (!shoal.isHere(carp)) {
            throw new IllegalStateException("the carp is sold");
        }
        shoal.takeOut(carp);
        garden.changeCarps(shoal.placeOf(carp), -1);
        now.coins += now.carpSize(carp) / 2 + 1;
        return now.coins;
    }

    public int told(int carp, int what) throws IndexOutOfBoundsException {
        checkCarp(carp);
        checkWhat(what, TOLD_ANSWERS);
        switch (what) {
            case 0:
                return shoal.placeOf(carp) % Garden.WIDTH;
            case 1:
                return shoal.placeOf(carp) / Garden.WIDTH;
            case 2:
                return now.carpSize(carp);
            case 3:
                return shoal.isHere(carp) ? 0 : 1;
            default:
                return rankOf(carp);
        }
    }

    private int rankOf(int carp) {
        if (!shoal.isHere(carp)) {
            return 0;
        }
        int rank = 1;
        for (int other = 0; other < shoal.came; other++) {
            if (shoal.isHere(other) && now.carpSize(other) > now.carpSize(carp)) {
                rank++;
            }
        }
        return rank;
    }

    // ---- gates and poets

    public int gate(int x, int y, int direction)
            throws IndexOutOfBoundsException, IllegalArgumentException, IllegalStateException {
        checkPlace(x, y);
        if (!Garden.isDirection(direction)) {
            throw new IllegalArgumentException("no such direction");
        }
        if (gates.many >= MOST_GATES) {
            throw new IllegalStateException("there are 6 gates");
        }
        return gates.add(Garden.numberOf(x, y), direction);
    }

    public int about(int gate, int what) throws IndexOutOfBoundsException {
        checkGate(gate);
        checkWhat(what, ABOUT_ANSWERS);
        look(gate, now);
        switch (what) {
            case 0:
                return view.cells;
            case 1:
                return view.rocks;
            case 2:
                return view.pondCells;
            case 3:
                return view.beauty;
            default:
                return poets.manyAt(gate);
        }
    }

    public int invite(int gate) throws IndexOutOfBoundsException, IllegalStateException {
        checkGate(gate);
        if (poets.many >= MOST_POETS) {
            throw new IllegalStateException("there are 5 poets");
        }
        return poets.add(gate);
    }

    public int lead(int poet, int gate) throws IndexOutOfBoundsException {
        checkPoet(poet);
        checkGate(gate);
        int before = poets.gateOf(poet);
        poets.setGate(poet, gate);
        return before;
    }

    public int lines(int poet) throws IndexOutOfBoundsException {
        checkPoet(poet);
        return now.written(poet);
    }

    public int count(int what) throws IndexOutOfBoundsException {
        checkWhat(what, COUNT_ANSWERS);
        switch (what) {
            case 0:
                return now.day;
            case 1:
                return now.isFullMoon() ? 1 : 0;
            case 3:
                return garden.manyOf(Garden.ROCK);
            case 4:
                return garden.manyOf(Garden.POND);
            case 5:
                return garden.ponds;
            case 6:
                return shoal.manyHere();
            case 8:
                return gates.many;
            case 9:
                return poets.many;
            default:
                return changingCount(what, now);
        }
    }

    private int changingCount(int what, Course course) {
        switch (what) {
            case COINS:
                return course.coins;
            case CARP_SIZES:
                return shoal.sizesHere(course);
            default:
                return course.writtenByAll();
        }
    }

    // ---- days and what would be

    public int pass(int days) throws IllegalArgumentException {
        checkDays(days);
        return letPass(days, now);
    }

    public int foresee(int days, int what) throws IllegalArgumentException, IndexOutOfBoundsException {
        checkDays(days);
        if (what != COINS && what != CARP_SIZES && what != ALL_LINES) {
            throw new IndexOutOfBoundsException("this is not foreseen");
        }
        ahead.becomeLike(now);
        letPass(days, ahead);
        return changingCount(what, ahead);
    }

    public int advise(int gate, int shape, int size)
            throws IndexOutOfBoundsException, IllegalArgumentException {
        checkGate(gate);
        checkRock(shape, size);
        int best = NONE;
        int greatest = look(gate, now);
        for (int place = 0; place < Garden.CELLS; place++) {
            if (garden.isBare(place)) {
                int beauty = beautyWithRock(gate, place, shape, size);
                if (beauty > greatest) {
                    best = place;
                    greatest = beauty;
                }
            }
        }
        return best;
    }

    public int finest() {
        int best = NONE;
        int greatest = NONE;
        for (int gate = 0; gate < gates.many; gate++) {
            int beauty = look(gate, now);
            if (beauty > greatest) {
                best = gate;
                greatest = beauty;
            }
        }
        return best;
    }

    public double mean() {
        if (gates.many <= 0) {
            return 0;
        }
        int sum = 0;
        for (int gate = 0; gate < gates.many; gate++) {
            sum += look(gate, now);
        }
        return (double) sum / gates.many;
    }

    public long digest() {
        long d = 1193;
        for (int what = 0; what < COUNT_ANSWERS; what++) {
            d = d * 31 + count(what);
        }
        d = digestOfCells(d);
        d = digestOfCarps(d);
        d = digestOfGates(d);
        for (int poet = 0; poet < poets.many; poet++) {
            d = d * 31 + lines(poet);
        }
        return d;
    }

    private long digestOfCells(long before) {
        long d = before;
        for (int y = 0; y < Garden.HEIGHT; y++) {
            for (int x = 0; x < Garden.WIDTH; x++) {
                for (int what = 0; what < CELL_ANSWERS; what++) {
                    d = d * 31 + cell(x, y, what);
                }
            }
        }
        return d;
    }

    private long digestOfCarps(long before) {
        long d = before;
        for (int carp = 0; carp < shoal.came; carp++) {
            for (int what = 0; what < TOLD_ANSWERS; what++) {
                d = d * 31 + told(carp, what);
            }
        }
        return d;
    }

    private long digestOfGates(long before) {
        long d = before;
        for (int gate = 0; gate < gates.many; gate++) {
            for (int what = 0; what < ABOUT_ANSWERS; what++) {
                d = d * 31 + about(gate, what);
            }
        }
        return d;
    }

    // ---- how a day goes

    private int letPass(int days, Course course) {
        int written = 0;
        for (int passed = 0; passed < days; passed++) {
            letCarpsGrow(course);
            int today = letPoetsWrite(course);
            course.coins += today / LINES_FOR_A_COIN;
            course.day++;
            written += today;
        }
        return written;
    }

    private void letCarpsGrow(Course course) {
        for (int carp = 0; carp < shoal.came; carp++) {
            if (shoal.isHere(carp)) {
                int change = garden.isTooFull(shoal.placeOf(carp)) ? -1 : 1;
                course.setCarpSize(carp, course.carpSize(carp) + change);
            }
        }
    }

    private int letPoetsWrite(Course course) {
        int written = 0;
        int times = course.isFullMoon() ? 2 : 1;
        for (int poet = 0; poet < poets.many; poet++) {
            int fresh = times * (look(poets.gateOf(poet), course) / 5);
            course.addWritten(poet, fresh);
            written += fresh;
        }
        return written;
    }

    // ---- what a gate shows

    private int beautyWithRock(int gate, int place, int shape, int size) {
        garden.setRock(place, shape, size);
        int beauty = look(gate, now);
        garden.takeRock(place);
        return beauty;
    }

    /** Fills the view with what the gate shows, and answers its beauty. */
    private int look(int gate, Course course) {
        view.begin();
        int direction = gates.directionOf(gate);
        int place = garden.beside(gates.placeOf(gate), direction);
        for (int far = 0; far < Garden.WIDTH && place != NONE && !garden.isWall(place); far++) {
            show(place, course);
            place = garden.isGreatRock(place) ? NONE : garden.beside(place, direction);
        }
        return view.beauty;
    }

    private void show(int place, Course course) {
        view.cells++;
        int kind = garden.kindAt(place);
        if (kind == Garden.ROCK) {
            view.addRock(garden.shapeAt(place), garden.sizeAt(place));
        } else if (kind == Garden.POND) {
            view.addPondCell(shoal.sizesIn(place, course));
        }
    }

    // ---- what is refused

    private void checkPlace(int x, int y) {
        if (!Garden.isInside(x, y)) {
            throw new IndexOutOfBoundsException("no such cell");
        }
    }

    private void checkRock(int shape, int size) {
        if (shape < 0 || shape > 5) {
            throw new IllegalArgumentException("no such shape");
        }
        if (size < 1 || size > 9) {
            throw new IllegalArgumentException("no such size");
        }
    }

    private void checkBare(int place) {
        if (!garden.isBare(place)) {
            throw new IllegalStateException("the cell is not bare");
        }
    }

    private void spend(int price) {
        if (now.coins < price) {
            throw new IllegalStateException("there are not so many coins");
        }
        now.coins -= price;
    }

    private void checkWhat(int what, int answers) {
        if (what < 0 || what >= answers) {
            throw new IndexOutOfBoundsException("this is not told");
        }
    }

    private void checkCarp(int carp) {
        if (carp < 0 || carp >= shoal.came) {
            throw new IndexOutOfBoundsException("no such carp");
        }
    }

    private void checkGate(int gate) {
        if (gate < 0 || gate >= gates.many) {
            throw new IndexOutOfBoundsException("no such gate");
        }
    }

    private void checkPoet(int poet) {
        if (poet < 0 || poet >= poets.many) {
            throw new IndexOutOfBoundsException("no such poet");
        }
    }

    private void checkDays(int days) {
        if (days < 1 || days > MOST_DAYS) {
            throw new IllegalArgumentException("not so many days");
        }
    }

    /** The cells, each by its number 10 * y + x, and the ponds that they make. */
    private static final class Garden {
        static final int WIDTH = 10;
        static final int HEIGHT = 7;
        static final int CELLS = 70;

        static final int BARE = 0;
        static final int ROCK = 1;
        static final int POND = 2;
        static final int WALL = 3;

        private static final int DIRECTIONS = 4;
        private static final int[] STEP_X = {0, 1, 0, -1};
        private static final int[] STEP_Y = {-1, 0, 1, 0};
        private static final int GREAT = 7;

        private final int[] kinds;
        private final int[] shapes;
        private final int[] sizes;
        private final int[] carps;

        // The ponds are surveyed anew when a pond cell comes or goes, and not when one asks.
        private final int[] pondOf;
        private final int[] pondCells;
        private final int[] pondCarps;
        private final int[] reached;
        int ponds;

        Garden() {
            kinds = new int[CELLS];
            shapes = new int[CELLS];
            sizes = new int[CELLS];
            carps = new int[CELLS];
            pondOf = new int[CELLS];
            pondCells = new int[CELLS];
            pondCarps = new int[CELLS];
            reached = new int[CELLS];
            ponds = 0;
            for (int place = 0; place < CELLS; place++) {
                shapes[place] = NONE;
                pondOf[place] = NONE;
            }
        }

        static boolean isInside(int x, int y) {
            return x >= 0 && x < WIDTH && y >= 0 && y < HEIGHT;
        }

        static int numberOf(int x, int y) {
            return WIDTH * y + x;
        }

        static boolean isDirection(int direction) {
            return direction >= 0 && direction < DIRECTIONS;
        }

        private static boolean isPlace(int place) {
            return place >= 0 && place < CELLS;
        }

        int beside(int place, int direction) {
            if (!isPlace(place) || !isDirection(direction)) {
                return NONE;
            }
            int x = place % WIDTH + STEP_X[direction];
            int y = place / WIDTH + STEP_Y[direction];
            return isInside(x, y) ? numberOf(x, y) : NONE;
        }

        int kindAt(int place) {
            return isPlace(place) ? kinds[place] : NONE;
        }

        int shapeAt(int place) {
            return isPlace(place) ? shapes[place] : NONE;
        }

        int sizeAt(int place) {
            return isPlace(place) ? sizes[place] : 0;
        }

        boolean isBare(int place) {
            return kindAt(place) == BARE;
        }

        boolean isPond(int place) {
            return kindAt(place) == POND;
        }

        boolean isWall(int place) {
            return kindAt(place) == WALL;
        }

        boolean isGreatRock(int place) {
            return kindAt(place) == ROCK && sizeAt(place) >= GREAT;
        }

        boolean hasCarps(int place) {
            return isPlace(place) && carps[place] > 0;
        }

        int manyOf(int kind) {
            int many = 0;
            for (int place = 0; place < CELLS; place++) {
                if (kinds[place] == kind) {
                    many++;
                }
            }
            return many;
        }

        void setRock(int place, int shape, int size) {
            setCell(place, ROCK, shape, size);
        }

        void takeRock(int place) {
            setCell(place, BARE, NONE, 0);
        }

        void setPond(int place) {
            setCell(place, POND, NONE, 0);
            surveyPonds();
        }

        void setWall(int place) {
            setCell(place, WALL, NONE, 0);
        }

        void setBare(int place) {
            boolean wasPond = isPond(place);
            setCell(place, BARE, NONE, 0);
            if (wasPond) {
                surveyPonds();
            }
        }

        private void setCell(int place, int kind, int shape, int size) {
            if (isPlace(place)) {
                kinds[place] = kind;
                shapes[place] = shape;
                sizes[place] = size;
            }
        }

        void changeCarps(int place, int by) {
            int pond = pondAt(place);
            if (pond != NONE) {
                carps[place] += by;
                pondCarps[pond] += by;
            }
        }

        int cellsOfPondAt(int place) {
            int pond = pondAt(place);
            return pond == NONE ? 0 : pondCells[pond];
        }

        int carpsOfPondAt(int place) {
            int pond = pondAt(place);
            return pond == NONE ? 0 : pondCarps[pond];
        }

        boolean isTooFull(int place) {
            return carpsOfPondAt(place) > 2 * cellsOfPondAt(place);
        }

        private int pondAt(int place) {
            int pond = isPlace(place) ? pondOf[place] : NONE;
            return pond >= 0 && pond < CELLS ? pond : NONE;
        }

        private void surveyPonds() {
            for (int place = 0; place < CELLS; place++) {
                pondOf[place] = NONE;
            }
            ponds = 0;
            for (int place = 0; place < CELLS; place++) {
                if (isUnknownPond(place)) {
                    surveyPond(ponds, place);
                    ponds++;
                }
            }
        }

        private void surveyPond(int pond, int first) {
            if (!isPlace(pond) || !isPlace(first)) {
                return;
            }
            pondCells[pond] = 0;
            pondCarps[pond] = 0;
            pondOf[first] = pond;
            reached[0] = first;
            int many = 1;
            for (int next = 0; next < many && next < CELLS; next++) {
                int place = reached[next];
                pondCells[pond]++;
                pondCarps[pond] += isPlace(place) ? carps[place] : 0;
                many = reachOnFrom(place, pond, many);
            }
        }

        private int reachOnFrom(int place, int pond, int before) {
            int many = before;
            for (int direction = 0; direction < DIRECTIONS; direction++) {
                int next = beside(place, direction);
                if (isUnknownPond(next) && many >= 0 && many < CELLS) {
                    pondOf[next] = pond;
                    reached[many] = next;
                    many++;
                }
            }
            return many;
        }

        private boolean isUnknownPond(int place) {
            return isPlace(place) && kinds[place] == POND && pondOf[place] == NONE;
        }
    }

    /** The carps by their numbers, also those that are sold. */
    private static final class Shoal {
        private final int[] places;
        private final boolean[] sold;
        int came;

        Shoal() {
            places = new int[MOST_CARPS];
            sold = new boolean[MOST_CARPS];
            came = 0;
        }

        private boolean isNumber(int carp) {
            return carp >= 0 && carp < came && carp < MOST_CARPS;
        }

        int add(int place) {
            int number = came;
            if (number >= 0 && number < MOST_CARPS) {
                places[number] = place;
                sold[number] = false;
                came++;
            }
            return number;
        }

        void takeOut(int carp) {
            if (isNumber(carp)) {
                sold[carp] = true;
            }
        }

        boolean isHere(int carp) {
            return isNumber(carp) && !sold[carp];
        }

        int placeOf(int carp) {
            return isNumber(carp) ? places[carp] : NONE;
        }

        int manyHere() {
            int many = 0;
            for (int carp = 0; carp < came; carp++) {
                if (isHere(carp)) {
                    many++;
                }
            }
            return many;
        }

        int sizesHere(Course course) {
            int sum = 0;
            for (int carp = 0; carp < came; carp++) {
                if (isHere(carp)) {
                    sum += course.carpSize(carp);
                }
            }
            return sum;
        }

        int sizesIn(int place, Course course) {
            int sum = 0;
            for (int carp = 0; carp < came && carp < MOST_CARPS; carp++) {
                if (places[carp] == place && !sold[carp]) {
                    sum += course.carpSize(carp);
                }
            }
            return sum;
        }
    }

    /** The gates by their numbers. */
    private static final class Gates {
        private final int[] places;
        private final int[] directions;
        int many;

        Gates() {
            places = new int[MOST_GATES];
            directions = new int[MOST_GATES];
            many = 0;
        }

        private boolean isNumber(int gate) {
            return gate >= 0 && gate < many && gate < MOST_GATES;
        }

        int add(int place, int direction) {
            int number = many;
            if (number >= 0 && number < MOST_GATES) {
                places[number] = place;
                directions[number] = direction;
                many++;
            }
            return number;
        }

        int placeOf(int gate) {
            return isNumber(gate) ? places[gate] : NONE;
        }

        int directionOf(int gate) {
            return isNumber(gate) ? directions[gate] : NONE;
        }
    }

    /** The poets by their numbers, each at a gate. */
    private static final class Poets {
        private final int[] gatesOf;
        int many;

        Poets() {
            gatesOf = new int[MOST_POETS];
            many = 0;
        }

        private boolean isNumber(int poet) {
            return poet >= 0 && poet < many && poet < MOST_POETS;
        }

        int add(int gate) {
            int number = many;
            if (number >= 0 && number < MOST_POETS) {
                gatesOf[number] = gate;
                many++;
            }
            return number;
        }

        int gateOf(int poet) {
            return isNumber(poet) ? gatesOf[poet] : NONE;
        }

        void setGate(int poet, int gate) {
            if (isNumber(poet)) {
                gatesOf[poet] = gate;
            }
        }

        int manyAt(int gate) {
            int there = 0;
            for (int poet = 0; poet < many; poet++) {
                if (gateOf(poet) == gate) {
                    there++;
                }
            }
            return there;
        }
    }

    /** All that changes with the days alone, so that days can go by on a copy of it. */
    private static final class Course {
        static final int LEAST_SIZE = 1;
        private static final int GREATEST_SIZE = 40;

        int day;
        int coins;
        private final int[] carpSizes;
        private final int[] linesWritten;

        Course() {
            day = 0;
            coins = FIRST_COINS;
            carpSizes = new int[MOST_CARPS];
            linesWritten = new int[MOST_POETS];
        }

        void becomeLike(Course other) {
            day = other.day;
            coins = other.coins;
            for (int carp = 0; carp < MOST_CARPS; carp++) {
                carpSizes[carp] = other.carpSizes[carp];
            }
            for (int poet = 0; poet < MOST_POETS; poet++) {
                linesWritten[poet] = other.linesWritten[poet];
            }
        }

        boolean isFullMoon() {
            return day % 8 == 4;
        }

        int carpSize(int carp) {
            return carp >= 0 && carp < MOST_CARPS ? carpSizes[carp] : 0;
        }

        void setCarpSize(int carp, int size) {
            if (carp >= 0 && carp < MOST_CARPS) {
                carpSizes[carp] = Math.max(LEAST_SIZE, Math.min(GREATEST_SIZE, size));
            }
        }

        int written(int poet) {
            return poet >= 0 && poet < MOST_POETS ? linesWritten[poet] : 0;
        }

        void addWritten(int poet, int fresh) {
            if (poet >= 0 && poet < MOST_POETS) {
                linesWritten[poet] += fresh;
            }
        }

        int writtenByAll() {
            int sum = 0;
            for (int poet = 0; poet < MOST_POETS; poet++) {
                sum += linesWritten[poet];
            }
            return sum;
        }
    }

    /** What one gate shows, added up from the nearest cell on; one is made, and used for every look. */
    private static final class View {
        int cells;
        int rocks;
        int pondCells;
        int beauty;
        private int shapesShown;

        void begin() {
            cells = 0;
            rocks = 0;
            pondCells = 0;
            beauty = 0;
            shapesShown = 0;
        }

        void addRock(int shape, int size) {
            int mark = 1 << shape;
            rocks++;
            beauty += size;
            if ((shapesShown & mark) == 0) {
                beauty += 4;
            }
            shapesShown |= mark;
        }

        void addPondCell(int carpSizes) {
            pondCells++;
            beauty += 3 + carpSizes / 10;
        }
    }
}
