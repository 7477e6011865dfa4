import java.util.Arrays;
import java.util.NoSuchElementException;

/** A city's fire brigade, as the document tells it; every call answers for any arguments in any state. */
public final class CityBrigade {
    public static final int NONE = -1;

    private static final int CORNERS = 20;
    private static final int PARTS = 4;
    private static final int MOST_STREETS = 40;
    private static final int MOST_HOUSES = 12;
    private static final int MOST_FLOORS = 6;
    private static final int MOST_ROOMS = 4;
    private static final int ROOMS_OF_ONE = MOST_FLOORS * MOST_ROOMS;
    private static final int ALL_STOREYS = MOST_HOUSES * MOST_FLOORS;
    private static final int ALL_ROOMS = MOST_HOUSES * ROOMS_OF_ONE;
    private static final int MOST_MAINS = 6;
    private static final int MOST_HEADS = 20;
    private static final int MOST_CREWS = 16;
    private static final int MOST_CALLS = 60;
    private static final int MOST_ORDERS = 20;
    private static final int MOST_BYTES = 200;
    private static final int MOST_ACTS = 12;
    private static final int MOST_EVENTS = 100;
    private static final int MOST_STOPS = 8;
    private static final int MOST_ROWS = 6;
    private static final int LAST_MINUTE = 20_000;
    // Above every sum of LONG that a way can have, and small enough to be added up.
    private static final int FAR = 1_000_000;

    private static final int PUMP = 0;
    private static final int STEAMER = 1;
    private static final int LADDER = 2;
    private static final int CHIEF = 3;
    private static final int SORTS = 4;

    private static final int READY = 0;
    private static final int GOING = 1;
    private static final int WORK = 2;
    private static final int WAY = 3;
    private static final int HURT = 4;

    private static final int OPEN = 0;
    private static final int OUT = 1;
    private static final int FALSE = 2;

    private static final int ORDERS = 0;
    private static final int LEAVING = 1;
    private static final int ACT = 2;

    private static final int FLOAT = 3;
    private static final int NOT_A_NUMBER = -1_000_000;

    private final Streets streets = new Streets();
    private final Town town = new Town(streets);
    private final Brigade brigade = new Brigade(streets, town);
    private final Tape tape = new Tape();
    private final Law law = new Law(town);
    private final Survey survey = new Survey(streets, town, law);
    private final int[] rowKinds = new int[MOST_ROWS];
    private final boolean[] rowLost = new boolean[MOST_ROWS];
    private final int[] places = new int[MOST_ROWS * CORNERS];
    private int rows;

    public CityBrigade() {
    }

    public int street(int one, int other, int lasts) {
        if (!isCorner(one) || !isCorner(other) || one == other || !within(lasts, 1, 20)) {
            return NONE;
        }
        return streets.add(one, other, lasts);
    }

    public boolean jam(int street, int part, int hundredths) {
        if (!below(street, streets.number) || !below(part, PARTS) || !within(hundredths, 100, 400)) {
            return false;
        }
        streets.jams[street * PARTS + part] = hundredths;
        return true;
    }

    public boolean closed(int street, boolean is) {
        if (!below(street, streets.number) || streets.shut[street] == is) {
            return false;
        }
        streets.shut[street] = is;
        return true;
    }

    public int come(int from, int to, int minute, int slow) {
        if (!within(minute, 0, 30_000) || !within(slow, 50, 300)) {
            return NONE;
        }
        return streets.arrival(from, to, minute, slow);
    }

    public int feet(int from, int to) {
        int walk = streets.walk(from, to);
        return walk >= FAR ? NONE : walk * 100;
    }

    public int house(int corner, int kind, int floors, int rooms, int shaft) {
        boolean fine = isCorner(corner) && within(kind, 0, 2) && within(floors, 1, MOST_FLOORS)
                && within(rooms, 1, MOST_ROOMS) && (shaft == NONE || below(shaft, rooms));
        if (!fine || town.number >= MOST_HOUSES) {
            return NONE;
        }
        House made = town.add(corner);
        made.kind = kind;
        made.floors = floors;
        made.rooms = rooms;
        made.shaft = shaft;
        return made.number;
    }

    public boolean build(int house, boolean doors, int wall, int year) {
        if (!town.has(house) || !within(wall, 0, 3) || !within(year, 1, 200)) {
            return false;
        }
        House built = town.houses[house];
        built.doors = doors;
        built.wall = wall;
        built.year = year;
        return true;
    }

    public boolean use(int house, int use) {
        if (!town.has(house) || !within(use, 0, 9) || law.wasChanged(house)) {
            return false;
        }
        town.houses[house].use = use;
        return true;
    }

    public boolean floor(int house, int floor, int stuff, int people) {
        if (!town.hasFloor(house, floor) || !within(stuff, 0, 500) || !within(people, 0, 20)) {
            return false;
        }
        House told = town.houses[house];
        if (town.fire.hasFallen(told, floor)) {
            return false;
        }
        told.told[floor] = stuff;
        told.people[floor] = people;
        town.fire.fill(told, floor, stuff);
        brigade.witness();
        return true;
    }

    public boolean light(int house, int room) {
        if (!town.hasRoom(house, room)) {
            return false;
        }
        House lit = town.houses[house];
        if (town.fire.hasFallen(lit, lit.floorOf(room))) {
            return false;
        }
        town.fire.kindle(lit.place(room));
        brigade.witness();
        return true;
    }

    public int room(int house, int room, int what) {
        if (!town.hasRoom(house, room)) {
            return NONE;
        }
        House asked = town.houses[house];
        switch (what) {
            case 0: return town.fire.heat[asked.place(room)];
            case 1: return town.fire.stuff[asked.place(room)];
            case 2: return town.fire.burns(asked.place(room)) ? 1 : 0;
            default: return NONE;
        }
    }

    public int floored(int house, int floor, int what) {
        if (!town.hasFloor(house, floor)) {
            return NONE;
        }
        House asked = town.houses[house];
        switch (what) {
            case 0: return town.fire.burnt[asked.storey(floor)];
            case 1: return town.fire.hasFallen(asked, floor) ? 1 : 0;
            case 2: return asked.people[floor];
            case 3: return town.fire.load(asked, floor);
            default: return NONE;
        }
    }

    public int housed(int house, int what) {
        if (!town.has(house)) {
            return NONE;
        }
        House asked = town.houses[house];
        switch (what) {
            case 0: return town.fire.burningRooms(asked);
            case 1: return town.fire.burntOf(asked);
            case 2: return asked.saved;
            case 3: return asked.lost;
            case 4: return town.fire.fallenOf(asked);
            case 5: return brigade.workersIn(house);
            case 6: return asked.gallons;
            default: return NONE;
        }
    }

    public int main(int gives) {
        return within(gives, 10, 2000) ? town.addMain(gives) : NONE;
    }

    public int head(int corner, int main) {
        return isCorner(corner) && below(main, town.mains) ? town.addHead(corner, main) : NONE;
    }

    public int crew(int sort, int home, boolean horses, int slow, int men) {
        boolean fine = below(sort, SORTS) && isCorner(home) && within(slow, 50, 150) && within(men, 1, 9);
        if (!fine || brigade.number >= MOST_CREWS) {
            return NONE;
        }
        int made = brigade.addCrew(sort, home);
        Crew its = brigade.crews[made];
        its.horses = horses;
        its.best = slow;
        its.men = men;
        return made;
    }

    public boolean gear(int crew, int a, int b, int c) {
        if (!brigade.has(crew)) {
            return false;
        }
        Crew its = brigade.crews[crew];
        if (its.state == WORK || !its.fits(a, b, c)) {
            return false;
        }
        its.first = a;
        its.second = b;
        its.third = c;
        return true;
    }

    public boolean heal(int crew) {
        if (!brigade.has(crew) || brigade.crews[crew].state != HURT) {
            return false;
        }
        brigade.crews[crew].rest(brigade.crews[crew].home);
        return true;
    }

    public boolean recall(int crew) {
        if (!brigade.has(crew)) {
            return false;
        }
        Crew its = brigade.crews[crew];
        if (its.state != READY || its.post == its.home) {
            return false;
        }
        brigade.turnHome(its);
        return true;
    }

    public int about(int crew, int what) throws NoSuchElementException {
        if (!brigade.has(crew) || !within(what, 0, 8)) {
            throw new NoSuchElementException();
        }
        Crew its = brigade.crews[crew];
        switch (what) {
            case 0: return its.state;
            case 1: return its.post;
            case 2: return its.there;
            case 3: return its.sentTo;
            case 4: return its.house;
            case 5: return its.floor;
            case 6: return its.tired;
            case 7: return its.slow();
            default: return its.got;
        }
    }

    public int reach(int crew, int house) {
        if (!brigade.has(crew) || !town.has(house) || !brigade.crews[crew].hasHose()) {
            return NONE;
        }
        House asked = town.houses[house];
        return town.topFloor(asked, town.nearestHead(asked.corner), brigade.crews[crew].first);
    }

    public int call(int corner) {
        return isCorner(corner) ? brigade.answer(corner) : NONE;
    }

    public int called(int call, int what) {
        if (!below(call, brigade.numberOfCalls)) {
            return NONE;
        }
        Call asked = brigade.calls[call];
        switch (what) {
            case 0: return asked.corner;
            case 1: return asked.word;
            case 2: return asked.state;
            case 3: return asked.began;
            case 4: return asked.ended;
            case 5: return asked.sent;
            case 6: return asked.lacked;
            case 7: return asked.times;
            default: return NONE;
        }
    }

    public int falses(int corner, int part) {
        return isCorner(corner) && below(part, PARTS) ? brigade.falseHundredths(corner, part) : NONE;
    }

    public int feed(int a, int b, int c, int d, int e) {
        int more = Tape.bytesIn(a) + Tape.bytesIn(b) + Tape.bytesIn(c) + Tape.bytesIn(d) + Tape.bytesIn(e);
        if (tape.length + more > MOST_BYTES) {
            return NONE;
        }
        tape.take(a);
        tape.take(b);
        tape.take(c);
        tape.take(d);
        tape.take(e);
        return tape.length;
    }

    public boolean end(int n) {
        if (!within(n, 0, tape.length)) {
            return false;
        }
        tape.length = n;
        return true;
    }

    public int fault(int sort) {
        if (!within(sort, ORDERS, ACT)) {
            return -2;
        }
        return tape.parse(sort) ? NONE : tape.at;
    }

    public int orders() {
        if (brigade.numberOfOrders >= MOST_ORDERS || !tape.parse(ORDERS)) {
            return NONE;
        }
        tape.handOver(brigade.orders);
        brigade.numberOfOrders++;
        return brigade.numberOfOrders - 1;
    }

    public boolean leaving() {
        if (!tape.parse(LEAVING)) {
            return false;
        }
        tape.handOver(brigade.leaving);
        return true;
    }

    public int asks(int corner, int word, int sort) {
        if (!isCorner(corner) || !within(word, 1, 3) || !within(sort, 0, SORTS)) {
            return NONE;
        }
        brigade.readOrders(corner, word);
        return brigade.orders.sums[sort];
    }

    public int why(int corner, int word) {
        if (!isCorner(corner) || !within(word, 1, 3)) {
            return NONE;
        }
        brigade.readOrders(corner, word);
        return brigade.orders.held;
    }

    public int tick(int n) {
        if (!within(n, 0, 300) || brigade.now + n > LAST_MINUTE) {
            return NONE;
        }
        for (int i = 0; i < n; i++) {
            brigade.passMinute();
        }
        return brigade.now;
    }

    public int act(int year) {
        if (!within(year, 1, 200) || law.acts >= MOST_ACTS || !tape.parse(ACT)) {
            return NONE;
        }
        int made = law.addAct(year, brigade.now);
        tape.handOver(law.texts[made]);
        return made;
    }

    public int force(int house, int q) {
        return isKnown(house, q) ? law.actFor(house, q) : NONE;
    }

    public boolean change(int house, int use, int from) {
        if (!isKnown(house, from) || !within(use, 0, 9)) {
            return false;
        }
        return law.tell(house, brigade.now, use, from);
    }

    public int used(int house, int q) {
        return isKnown(house, q) ? law.useAt(house, q) : NONE;
    }

    public boolean look(int house) {
        return town.has(house) && law.tell(house, brigade.now, NONE, brigade.now);
    }

    public int fails(int house, int q) {
        return isKnown(house, q) ? law.failures(house, q) : NONE;
    }

    public int code(int house, int q, int i) {
        if (!isKnown(house, q) || !below(i, law.failures(house, q))) {
            return NONE;
        }
        return law.codeAt(house, q, i);
    }

    public int failing() {
        int bits = 0;
        for (int h = 0; h < town.number; h++) {
            if (law.failures(h, brigade.now) > 0) {
                bits |= 1 << h;
            }
        }
        return bits;
    }

    public int round(int corner, int within, int what) {
        if (!isCorner(corner) || !within(within, 0, 500) || !within(what, 0, 2)) {
            return NONE;
        }
        survey.goRound(corner, within, brigade.now);
        if (what == 0) {
            return survey.worth;
        }
        return what == 1 ? survey.minutes : survey.stops;
    }

    public int rounded(int corner, int within, int i) {
        if (!isCorner(corner) || !within(within, 0, 500)) {
            return NONE;
        }
        survey.goRound(corner, within, brigade.now);
        return below(i, survey.stops) ? survey.order[i] : NONE;
    }

    public int plan(int n, int limit) {
        if (!within(n, 1, 4) || !within(limit, 1, 100)) {
            return NONE;
        }
        survey.makePlan(n, limit, brigade);
        return survey.points;
    }

    public int planned(int n, int limit, int i) {
        if (!within(n, 1, 4) || !within(limit, 1, 100) || !below(i, n)) {
            return NONE;
        }
        survey.makePlan(n, limit, brigade);
        return Survey.bitAt(survey.chosen, i);
    }

    public int row(int kind) {
        if (!within(kind, 0, FLOAT) || rows >= MOST_ROWS) {
            return NONE;
        }
        rowKinds[rows] = kind;
        rows++;
        return rows - 1;
    }

    public boolean put(int row, int corner, int v) {
        if (!hasRow(row) || !isCorner(corner) || !within(v, -1_000_000, 1_000_000)) {
            return false;
        }
        places[row * CORNERS + corner] = kept(rowKinds[row], v);
        return true;
    }

    public boolean lose(int row) {
        if (!hasRow(row)) {
            return false;
        }
        rowLost[row] = true;
        return true;
    }

    public int copy(int from, int at, int to, int place, int n) {
        if (!below(from, rows) || !below(to, rows)) {
            return 1;
        }
        if (rowLost[from] || rowLost[to]) {
            return 2;
        }
        if (rowKinds[from] != rowKinds[to]) {
            return 3;
        }
        if (!within(n, 0, CORNERS) || !within(at, 0, CORNERS - n) || !within(place, 0, CORNERS - n)) {
            return 4;
        }
        System.arraycopy(places, from * CORNERS + at, places, to * CORNERS + place, n);
        return 0;
    }

    public double judge(int row, int corners, int limit) {
        return canJudge(row, corners, limit) ? judgement(row, corners, limit) : Double.NaN;
    }

    public double loss(int row, int corners, int limit, int corner) {
        if (!canJudge(row, corners, limit) || !isCorner(corner) || (corners >> corner & 1) == 0) {
            return Double.NaN;
        }
        return judgement(row, corners, limit) - judgement(row, corners & ~(1 << corner), limit);
    }

    public int what(int house, int room, int gallons, int n) {
        if (!town.hasRoom(house, room) || !within(gallons, 0, 500) || !within(n, 1, 200)) {
            return NONE;
        }
        return town.tryWater(town.houses[house], room, gallons, n);
    }

    public int count(int what) {
        switch (what) {
            case 0: return brigade.now;
            case 1: return streets.number;
            case 2: return town.number;
            case 3: return brigade.number;
            case 4: return brigade.numberOfCalls;
            case 5: return brigade.callsThatAre(OPEN);
            case 6: return brigade.callsThatAre(FALSE);
            case 7: return brigade.lackedInAll();
            case 8: return town.savedInAll();
            case 9: return town.lostInAll();
            case 10: return brigade.hurtNow();
            case 11: return law.acts;
            case 12: return brigade.numberOfOrders;
            case 13: return tape.length;
            case 14: return town.mains;
            case 15: return town.heads;
            case 16: return rows;
            default: return NONE;
        }
    }

    private static boolean within(int value, int least, int most) {
        return value >= least && value <= most;
    }

    private static boolean below(int index, int size) {
        return index >= 0 && index < size;
    }

    private static boolean isCorner(int corner) {
        return corner >= 0 && corner < CORNERS;
    }

    private boolean isKnown(int house, int q) {
        return town.has(house) && within(q, 0, brigade.now);
    }

    private boolean hasRow(int row) {
        return below(row, rows) && !rowLost[row];
    }

    private boolean canJudge(int row, int corners, int limit) {
        return hasRow(row) && below(corners, 1 << CORNERS) && within(limit, 0, 100);
    }

    // A float's place keeps v itself, so that the NaN needs no arithmetic: v / 8f is made as it is judged.
    private static int kept(int kind, int v) {
        if (kind == 0) {
            return (byte) v;
        }
        return kind == 1 ? (short) v : v;
    }

    private double judgement(int row, int corners, int limit) {
        survey.findNear(limit);
        double sum = 0;
        for (int c = 0; c < CORNERS; c++) {
            sum = sum + valueAt(row, c) * survey.pointsAt(c, corners);
        }
        return sum;
    }

    private double valueAt(int row, int corner) {
        int v = places[row * CORNERS + corner];
        if (rowKinds[row] != FLOAT) {
            return v;
        }
        return v == NOT_A_NUMBER ? 1000 : v / 8f;
    }

    /** The streets, and how long it takes through them. */
    private static final class Streets {
        private static final int DAY_PART = 360;
        private static final int LONGEST = 600;

        final int[] one = new int[MOST_STREETS];
        final int[] other = new int[MOST_STREETS];
        final int[] lasts = new int[MOST_STREETS];
        final boolean[] shut = new boolean[MOST_STREETS];
        final int[] jams = new int[MOST_STREETS * PARTS];
        final int[] walks = new int[CORNERS * CORNERS];
        final int[] reached = new int[LONGEST + 1];
        int number;

        Streets() {
            Arrays.fill(jams, 100);
            Arrays.fill(walks, FAR);
            for (int c = 0; c < CORNERS; c++) {
                walks[c * CORNERS + c] = 0;
            }
        }

        static int partOf(int minute) {
            return minute / DAY_PART % PARTS;
        }

        int add(int from, int to, int minutes) {
            if (number >= MOST_STREETS) {
                return NONE;
            }
            one[number] = from;
            other[number] = to;
            lasts[number] = minutes;
            number++;
            shorten(from, to, minutes);
            return number - 1;
        }

        void shorten(int from, int to, int minutes) {
            for (int a = 0; a < CORNERS; a++) {
                for (int b = 0; b < CORNERS; b++) {
                    int there = walk(a, from) + minutes + walk(to, b);
                    int back = walk(a, to) + minutes + walk(from, b);
                    walks[a * CORNERS + b] = Math.min(walk(a, b), Math.min(there, back));
                }
            }
        }

        int walk(int from, int to) {
            return isCorner(from) && isCorner(to) ? walks[from * CORNERS + to] : FAR;
        }

        // One who comes later into a street may leave it earlier, as JAM changes with the PART; so all
        // minutes at which one can be at a corner are kept, not only the first one.
        int arrival(int from, int to, int minute, int slow) {
            if (!isCorner(from) || !isCorner(to) || (openTo(from) >> to & 1) == 0) {
                return NONE;
            }
            Arrays.fill(reached, 0);
            reached[0] = 1 << from;
            for (int gone = 0; gone <= LONGEST; gone++) {
                if ((reached[gone] >> to & 1) == 1) {
                    return minute + gone;
                }
                if (reached[gone] != 0) {
                    spread(gone, partOf(minute + gone), slow);
                }
            }
            return NONE;
        }

        void spread(int gone, int part, int slow) {
            int here = reached[gone];
            for (int s = 0; s < number; s++) {
                int then = gone + (lasts[s] * jams[s * PARTS + part] * slow + 9999) / 10_000;
                if (shut[s] || then < 0 || then > LONGEST) {
                    continue;
                }
                if ((here >> one[s] & 1) == 1) {
                    reached[then] |= 1 << other[s];
                }
                if ((here >> other[s] & 1) == 1) {
                    reached[then] |= 1 << one[s];
                }
            }
        }

        // Spares the walk through 600 minutes where no open way leads at all.
        int openTo(int from) {
            int all = 1 << from;
            for (int i = 0; i < CORNERS; i++) {
                int before = all;
                for (int s = 0; s < number; s++) {
                    int ends = 1 << one[s] | 1 << other[s];
                    if (!shut[s] && (all & ends) != 0) {
                        all |= ends;
                    }
                }
                if (all == before) {
                    return all;
                }
            }
            return all;
        }
    }

    /** What is told of a house, and what became of its people. */
    private static final class House {
        final int number;
        int corner;
        int kind;
        int floors = 1;
        int rooms = 1;
        int shaft = NONE;
        boolean doors;
        int wall;
        int year = 1;
        int use;
        int before = NONE;
        int behind = NONE;
        final int[] told = new int[MOST_FLOORS];
        final int[] people = new int[MOST_FLOORS];
        int saved;
        int lost;
        int gallons;

        House(int number) {
            this.number = number;
        }

        int storey(int floor) {
            return number * MOST_FLOORS + floor;
        }

        int place(int room) {
            return number * ROOMS_OF_ONE + room;
        }

        int floorOf(int room) {
            return rooms < 1 ? 0 : room / rooms;
        }

        // What LOAD lets a floor of it fall.
        int limit() {
            return rooms * (kind == 0 ? 60 : kind == 1 ? 100 : 140);
        }

        int beside() {
            return (before == NONE ? 0 : 1) + (behind == NONE ? 0 : 1);
        }

        void takeLost(int floor, int most) {
            int taken = Math.min(most, people[floor]);
            people[floor] -= taken;
            lost += taken;
        }
    }

    /** How all rooms burn: once as it is, and once more for what would have been. */
    private static final class Fire {
        private static final int KINDLED = 400;
        private static final int BURNING = 300;
        private static final int DEADLY = 600;
        private static final int MOST_HEAT = 1000;
        private static final int MOST_STUFF = 2000;

        final int[] heat = new int[ALL_ROOMS];
        final int[] stuff = new int[ALL_ROOMS];
        final int[] water = new int[ALL_ROOMS];
        final int[] burnt = new int[ALL_STOREYS];
        final boolean[] fallen = new boolean[ALL_STOREYS];
        // As the minute began: which rooms burned, and how many of a floor.
        final boolean[] lit = new boolean[ALL_ROOMS];
        final int[] litOn = new int[ALL_STOREYS];
        boolean cold = true;

        void become(Fire other) {
            System.arraycopy(other.heat, 0, heat, 0, ALL_ROOMS);
            System.arraycopy(other.stuff, 0, stuff, 0, ALL_ROOMS);
            System.arraycopy(other.burnt, 0, burnt, 0, ALL_STOREYS);
            System.arraycopy(other.fallen, 0, fallen, 0, ALL_STOREYS);
            Arrays.fill(water, 0);
            cold = other.cold;
        }

        boolean hasFallen(House house, int floor) {
            return fallen[house.storey(floor)];
        }

        // A floor that has fallen is not asked for: its rooms have no heat.
        boolean burns(int place) {
            return heat[place] >= BURNING && stuff[place] > 0;
        }

        int burningRooms(House house) {
            int burning = 0;
            if (!cold) {
                for (int room = 0; room < house.floors * house.rooms; room++) {
                    burning += burns(house.place(room)) ? 1 : 0;
                }
            }
            return burning;
        }

        int burntOf(House house) {
            int sum = 0;
            for (int f = 0; f < house.floors; f++) {
                sum += burnt[house.storey(f)];
            }
            return sum;
        }

        int fallenOf(House house) {
            int sum = 0;
            for (int f = 0; f < house.floors; f++) {
                sum += hasFallen(house, f) ? 1 : 0;
            }
            return sum;
        }

        int load(House house, int floor) {
            int storey = house.storey(floor);
            return floor < 1 ? 0 : burnt[storey] + 2 * burnt[storey - 1];
        }

        void fill(House house, int floor, int with) {
            for (int r = 0; r < house.rooms; r++) {
                stuff[house.place(floor * house.rooms + r)] = with;
            }
        }

        void kindle(int place) {
            heat[place] = Math.max(heat[place], KINDLED);
            cold = false;
        }

        // Without heat nothing burns, so no water is asked for, and what stays in the row is not used.
        void dry() {
            if (!cold) {
                Arrays.fill(water, 0);
            }
        }

        void step(House[] houses, int number) {
            if (cold) {
                return;
            }
            for (int h = 0; h < number; h++) {
                noteBurning(houses[h]);
            }
            cold = true;
            for (int h = 0; h < number; h++) {
                House house = houses[h];
                waste(house);
                warm(house, houses);
            }
            for (int h = 0; h < number; h++) {
                for (int f = houses[h].floors - 1; f >= 1; f--) {
                    if (!hasFallen(houses[h], f) && load(houses[h], f) >= houses[h].limit()) {
                        drop(houses[h], f);
                    }
                }
            }
        }

        void noteBurning(House house) {
            for (int f = 0; f < house.floors; f++) {
                int burning = 0;
                for (int r = 0; r < house.rooms; r++) {
                    int place = house.place(f * house.rooms + r);
                    lit[place] = burns(place);
                    burning += lit[place] ? 1 : 0;
                }
                litOn[house.storey(f)] = burning;
            }
        }

        // Ahead of the warming, as it asks for HEAT as the minute began.
        void waste(House house) {
            for (int f = 0; f < house.floors; f++) {
                for (int r = 0; r < house.rooms; r++) {
                    int place = house.place(f * house.rooms + r);
                    if (lit[place]) {
                        int gone = Math.min(stuff[place], 1 + heat[place] / 250);
                        stuff[place] -= gone;
                        burnt[house.storey(f)] += gone;
                    }
                }
            }
        }

        void warm(House house, House[] houses) {
            for (int f = 0; f < house.floors; f++) {
                int outside = glow(house, house.before, houses, f) + glow(house, house.behind, houses, f);
                for (int r = 0; r < house.rooms; r++) {
                    int place = house.place(f * house.rooms + r);
                    int gained = heat[place] + outside + gain(house, f, r) - water[place] / 4;
                    int kept = Math.max(0, Math.min(MOST_HEAT, gained));
                    heat[place] = hasFallen(house, f) ? 0 : kept;
                    cold = cold && heat[place] == 0;
                }
            }
        }

        int gain(House house, int floor, int r) {
            int place = house.place(floor * house.rooms + r);
            int sum = lit[place] ? 50 : -10;
            int door = house.doors ? 30 : 10;
            if (r > 0 && lit[place - 1]) {
                sum += door;
            }
            if (r + 1 < house.rooms && lit[place + 1]) {
                sum += door;
            }
            if (floor > 0 && lit[place - house.rooms]) {
                sum += r == house.shaft ? 60 : 20;
            }
            if (floor + 1 < house.floors && lit[place + house.rooms]) {
                sum += 5;
            }
            return sum;
        }

        int glow(House house, int beside, House[] houses, int floor) {
            if (!below(beside, houses.length)) {
                return 0;
            }
            House next = houses[beside];
            return floor >= next.floors ? 0 : litOn[next.storey(floor)] * (24 / (1 + house.wall + next.wall));
        }

        void drop(House house, int floor) {
            boolean deep = hasFallen(house, floor - 1);
            for (int r = 0; r < house.rooms; r++) {
                int place = house.place(floor * house.rooms + r);
                int under = place - house.rooms;
                stuff[under] = Math.min(MOST_STUFF, stuff[under] + stuff[place]);
                heat[under] = deep ? 0 : Math.max(heat[under], heat[place]);
                stuff[place] = 0;
                heat[place] = 0;
            }
            fallen[house.storey(floor)] = true;
        }

        int deadlyRooms(House house, int floor) {
            int deadly = 0;
            for (int r = 0; r < house.rooms; r++) {
                int place = house.place(floor * house.rooms + r);
                deadly += burns(place) && heat[place] >= DEADLY ? 1 : 0;
            }
            return deadly;
        }
    }

    /** The houses by corners, their fire, and the mains with their heads. */
    private static final class Town {
        final Streets streets;
        final House[] houses = new House[MOST_HOUSES];
        int number;
        final Fire fire = new Fire();
        final Fire trial = new Fire();
        final int[] gives = new int[MOST_MAINS];
        int mains;
        final int[] headCorners = new int[MOST_HEADS];
        final int[] headMains = new int[MOST_HEADS];
        int heads;

        Town(Streets streets) {
            this.streets = streets;
            for (int h = 0; h < MOST_HOUSES; h++) {
                houses[h] = new House(h);
            }
        }

        boolean has(int house) {
            return below(house, number);
        }

        boolean hasFloor(int house, int floor) {
            return has(house) && below(floor, houses[house].floors);
        }

        boolean hasRoom(int house, int room) {
            return has(house) && below(room, houses[house].floors * houses[house].rooms);
        }

        // Only while there are fewer houses than twelve.
        House add(int corner) {
            House made = houses[number];
            made.corner = corner;
            for (int h = 0; h < number; h++) {
                if (houses[h].corner == corner) {
                    made.before = h;
                }
            }
            if (has(made.before)) {
                houses[made.before].behind = number;
            }
            number++;
            return made;
        }

        int addMain(int gallons) {
            if (mains >= MOST_MAINS) {
                return NONE;
            }
            gives[mains] = gallons;
            mains++;
            return mains - 1;
        }

        int addHead(int corner, int main) {
            if (heads >= MOST_HEADS) {
                return NONE;
            }
            headCorners[heads] = corner;
            headMains[heads] = main;
            heads++;
            return heads - 1;
        }

        int nearestHead(int corner) {
            int nearest = NONE;
            int least = FAR;
            for (int i = 0; i < heads; i++) {
                int walk = streets.walk(headCorners[i], corner);
                if (walk < least) {
                    least = walk;
                    nearest = i;
                }
            }
            return nearest;
        }

        int topFloor(House house, int nearest, int hose) {
            if (!below(nearest, heads)) {
                return NONE;
            }
            int left = hose - streets.walk(headCorners[nearest], house.corner) * 100;
            return left < 20 ? NONE : Math.min(house.floors, left / 20) - 1;
        }

        // The house at a corner in which most rooms burn; NONE if nothing burns there.
        int worstAt(int corner) {
            int worst = NONE;
            int most = 0;
            for (int h = 0; h < number && !fire.cold; h++) {
                int burning = houses[h].corner == corner ? fire.burningRooms(houses[h]) : 0;
                if (burning > most) {
                    most = burning;
                    worst = h;
                }
            }
            return worst;
        }

        void passMinute() {
            fire.step(houses, number);
            for (int h = 0; h < number; h++) {
                loseIn(houses[h]);
            }
        }

        // Nobody is told onto a floor that has fallen: whoever is on one was there as it fell.
        void loseIn(House house) {
            for (int f = 0; f < house.floors; f++) {
                if (house.people[f] > 0) {
                    boolean down = fire.hasFallen(house, f);
                    house.takeLost(f, down ? house.people[f] : fire.deadlyRooms(house, f));
                }
            }
        }

        int tryWater(House house, int room, int gallons, int minutes) {
            trial.become(fire);
            trial.water[house.place(room)] = gallons;
            for (int i = 0; i < minutes; i++) {
                trial.step(houses, number);
            }
            return trial.burntOf(house) - fire.burntOf(house);
        }

        int savedInAll() {
            int sum = 0;
            for (int h = 0; h < number; h++) {
                sum += houses[h].saved;
            }
            return sum;
        }

        int lostInAll() {
            int sum = 0;
            for (int h = 0; h < number; h++) {
                sum += houses[h].lost;
            }
            return sum;
        }
    }

    /** One crew: what it is, where it is, and what it asks for in this minute. */
    private static final class Crew {
        int sort;
        int home;
        boolean horses;
        int best;
        int men;
        // HOSE, GALLONS, MINUTES; or HEIGHT, 0, 0.
        int first;
        int second;
        int third;
        int state;
        int post;
        int there = NONE;
        int sentTo = NONE;
        int house = NONE;
        int floor = NONE;
        int began;
        int tired;
        int got;
        int asked;
        int main = NONE;
        int room = NONE;

        boolean hasHose() {
            return sort == PUMP || sort == STEAMER;
        }

        int slow() {
            return horses ? best + tired / 3 : best;
        }

        boolean fits(int a, int b, int c) {
            if (hasHose()) {
                boolean minutes = sort == PUMP ? c == 0 : within(c, 1, 30);
                return within(a, 100, 3000) && within(b, 10, 500) && minutes;
            }
            return (sort == LADDER ? within(a, 1, 6) : a == 0) && b == 0 && c == 0;
        }

        void beginGear() {
            first = hasHose() ? 100 : sort == LADDER ? 1 : 0;
            second = hasHose() ? 10 : 0;
            third = sort == STEAMER ? 1 : 0;
        }

        void leaveWork() {
            house = NONE;
            floor = NONE;
        }

        void rest(int corner) {
            leaveWork();
            state = READY;
            post = corner;
            there = NONE;
        }

        void set(int newState, int corner, int minute) {
            leaveWork();
            state = newState;
            post = corner;
            there = minute;
        }

        void workIn(int newHouse, int minute) {
            state = WORK;
            there = NONE;
            house = newHouse;
            began = minute;
        }

        void beginMinute() {
            got = 0;
            asked = 0;
            floor = NONE;
            main = NONE;
            room = NONE;
        }

        void tire() {
            if (state == HURT) {
                tired = 0;
                return;
            }
            int more = state == READY ? -1 : state == WORK ? 2 : 1;
            tired = Math.max(0, Math.min(300, tired + more));
        }
    }

    /** One call at a corner, with all its words. */
    private static final class Call {
        int corner;
        int word;
        int state;
        int began;
        int ended = NONE;
        int sent;
        int lacked;
        int times;
        // Whether a house there was seen to burn since its first word.
        boolean burned;

        void close(int as, int minute) {
            state = as;
            ended = minute;
        }
    }

    /** The crews and the calls, and how a minute goes. */
    private static final class Brigade {
        private static final int MOVES = 4;

        final Streets streets;
        final Town town;
        final Crew[] crews = new Crew[MOST_CREWS];
        int number;
        final Call[] calls = new Call[MOST_CALLS];
        int numberOfCalls;
        final Text orders = new Text();
        int numberOfOrders;
        final Text leaving = new Text();
        final int[] letters = new int[Tape.MOST_LETTERS];
        final int[] arrivals = new int[MOST_CREWS];
        final int[] askedOf = new int[MOST_MAINS];
        int now;

        Brigade(Streets streets, Town town) {
            this.streets = streets;
            this.town = town;
            for (int i = 0; i < MOST_CREWS; i++) {
                crews[i] = new Crew();
            }
            for (int i = 0; i < MOST_CALLS; i++) {
                calls[i] = new Call();
            }
        }

        boolean has(int crew) {
            return below(crew, number);
        }

        // Only while there are fewer crews than sixteen.
        int addCrew(int sort, int home) {
            Crew made = crews[number];
            made.sort = sort;
            made.home = home;
            made.post = home;
            made.beginGear();
            number++;
            return number - 1;
        }

        int workersIn(int house) {
            int sum = 0;
            for (int i = 0; i < number; i++) {
                sum += crews[i].state == WORK && crews[i].house == house ? 1 : 0;
            }
            return sum;
        }

        int hurtNow() {
            int sum = 0;
            for (int i = 0; i < number; i++) {
                sum += crews[i].state == HURT ? 1 : 0;
            }
            return sum;
        }

        int callsThatAre(int state) {
            int sum = 0;
            for (int i = 0; i < numberOfCalls; i++) {
                sum += calls[i].state == state ? 1 : 0;
            }
            return sum;
        }

        int lackedInAll() {
            int sum = 0;
            for (int i = 0; i < numberOfCalls; i++) {
                sum += calls[i].lacked;
            }
            return sum;
        }

        int openAt(int corner) {
            for (int i = 0; i < numberOfCalls; i++) {
                if (calls[i].state == OPEN && calls[i].corner == corner) {
                    return i;
                }
            }
            return NONE;
        }

        int falseHundredths(int corner, int part) {
            int closed = 0;
            int wrong = 0;
            for (int i = 0; i < numberOfCalls; i++) {
                Call past = calls[i];
                if (past.corner == corner && past.state != OPEN && Streets.partOf(past.began) == part) {
                    closed++;
                    wrong += past.state == FALSE ? 1 : 0;
                }
            }
            return closed == 0 ? 0 : wrong * 100 / closed;
        }

        // Every moment at which a fire makes an open call a true one.
        void witness() {
            for (int i = 0; i < numberOfCalls && !town.fire.cold; i++) {
                if (calls[i].state == OPEN && !calls[i].burned) {
                    calls[i].burned = town.worstAt(calls[i].corner) != NONE;
                }
            }
        }

        int answer(int corner) {
            int open = openAt(corner);
            int its = open == NONE ? begin(corner) : open;
            if (!below(its, numberOfCalls)) {
                return NONE;
            }
            Call answered = calls[its];
            answered.times++;
            if (answered.word < 3) {
                answered.word++;
                readOrders(corner, answered.word);
                sendAll(its);
                moveAll(orders.sums[MOVES]);
            }
            return its;
        }

        int begin(int corner) {
            if (numberOfCalls >= MOST_CALLS) {
                return NONE;
            }
            Call made = calls[numberOfCalls];
            made.corner = corner;
            made.began = now;
            made.burned = town.worstAt(corner) != NONE;
            numberOfCalls++;
            return numberOfCalls - 1;
        }

        void readOrders(int corner, int word) {
            int highest = 0;
            int standing = 0;
            for (int h = 0; h < town.number; h++) {
                if (town.houses[h].corner == corner) {
                    highest = Math.max(highest, town.houses[h].floors);
                    standing++;
                }
            }
            letters[0] = word;
            letters[1] = now / 60 % 24;
            letters[2] = highest;
            letters[3] = standing;
            letters[4] = falseHundredths(corner, Streets.partOf(now));
            for (int sort = 0; sort < SORTS; sort++) {
                letters[5 + sort] = readyOf(sort);
            }
            letters[9] = callsThatAre(OPEN) - (openAt(corner) == NONE ? 0 : 1);
            orders.run(letters);
        }

        int readyOf(int sort) {
            int sum = 0;
            for (int i = 0; i < number; i++) {
                sum += crews[i].sort == sort && crews[i].state == READY ? 1 : 0;
            }
            return sum;
        }

        void sendAll(int call) {
            Call answered = calls[call];
            for (int sort = 0; sort < SORTS; sort++) {
                int wanted = orders.sums[sort];
                if (wanted > 0) {
                    findArrivals(answered.corner, sort);
                }
                for (int i = 0; i < wanted; i++) {
                    int best = soonest();
                    if (best == NONE) {
                        answered.lacked++;
                    } else {
                        crews[best].set(GOING, answered.corner, arrivals[best]);
                        crews[best].sentTo = call;
                        arrivals[best] = NONE;
                        answered.sent++;
                    }
                }
            }
        }

        void findArrivals(int corner, int sort) {
            for (int i = 0; i < number; i++) {
                boolean asked = crews[i].state == READY && crews[i].sort == sort;
                arrivals[i] = asked ? arrivalOf(crews[i], corner) : NONE;
            }
        }

        int arrivalOf(Crew crew, int corner) {
            return streets.arrival(crew.post, corner, now, crew.slow());
        }

        int soonest() {
            int best = NONE;
            for (int i = 0; i < number; i++) {
                if (arrivals[i] != NONE && (best == NONE || arrivals[i] < arrivals[best])) {
                    best = i;
                }
            }
            return best;
        }

        void moveAll(int moves) {
            for (int i = 0; i < moves; i++) {
                int bare = barePost();
                if (bare == NONE) {
                    return;
                }
                for (int k = 0; k < number; k++) {
                    arrivals[k] = isSpare(k) ? arrivalOf(crews[k], bare) : NONE;
                }
                int best = soonest();
                if (best == NONE) {
                    return;
                }
                crews[best].set(WAY, bare, arrivals[best]);
            }
        }

        int barePost() {
            int homes = 0;
            int held = 0;
            for (int i = 0; i < number; i++) {
                homes |= 1 << crews[i].home;
                if (crews[i].state == READY || crews[i].state == WAY) {
                    held |= 1 << crews[i].post;
                }
            }
            int bare = homes & ~held;
            return bare == 0 ? NONE : Integer.numberOfTrailingZeros(bare);
        }

        boolean isSpare(int crew) {
            if (crews[crew].state != READY) {
                return false;
            }
            for (int i = 0; i < number; i++) {
                if (i != crew && crews[i].state == READY && crews[i].post == crews[crew].post) {
                    return true;
                }
            }
            return false;
        }

        void turnHome(Crew crew) {
            int arrival = arrivalOf(crew, crew.home);
            if (arrival == NONE || arrival <= now) {
                crew.rest(crew.home);
            } else {
                crew.set(WAY, crew.home, arrival);
            }
        }

        void passMinute() {
            now++;
            for (int i = 0; i < number; i++) {
                if ((crews[i].state == GOING || crews[i].state == WAY) && crews[i].there <= now) {
                    arrive(crews[i]);
                }
            }
            goOver();
            workAll();
            shareWater();
            town.passMinute();
            hurtFallen();
            closeOut();
            sendHome();
            for (int i = 0; i < number; i++) {
                crews[i].tire();
            }
            witness();
        }

        void arrive(Crew crew) {
            if (crew.state == WAY) {
                crew.rest(crew.post);
                return;
            }
            int worst = town.worstAt(crew.post);
            boolean open = below(crew.sentTo, numberOfCalls) && calls[crew.sentTo].state == OPEN;
            if (open && worst != NONE) {
                crew.workIn(worst, now);
                return;
            }
            if (open) {
                calls[crew.sentTo].close(calls[crew.sentTo].burned ? OUT : FALSE, now);
            }
            turnHome(crew);
        }

        void goOver() {
            for (int i = 0; i < number; i++) {
                Crew crew = crews[i];
                if (crew.state != WORK || !town.has(crew.house)) {
                    continue;
                }
                if (town.fire.burningRooms(town.houses[crew.house]) == 0) {
                    int worst = town.worstAt(crew.post);
                    crew.house = worst == NONE ? crew.house : worst;
                }
            }
        }

        // The water of this part is what is asked for, as if each got it all; shareWater puts what comes.
        void workAll() {
            town.fire.dry();
            for (int i = 0; i < number; i++) {
                crews[i].beginMinute();
            }
            for (int i = 0; i < number; i++) {
                Crew crew = crews[i];
                if (crew.state == WORK && town.has(crew.house)) {
                    if (crew.sort == LADDER) {
                        takeOut(crew, town.houses[crew.house]);
                    } else if (crew.hasHose()) {
                        aim(crew, town.houses[crew.house]);
                    }
                }
            }
        }

        void takeOut(Crew crew, House house) {
            for (int f = Math.min(house.floors, crew.first) - 1; f >= 0; f--) {
                if (house.people[f] > 0 && !town.fire.hasFallen(house, f)) {
                    int taken = Math.min(2, house.people[f]);
                    house.people[f] -= taken;
                    house.saved += taken;
                    return;
                }
            }
        }

        void aim(Crew crew, House house) {
            int nearest = town.nearestHead(house.corner);
            int top = town.topFloor(house, nearest, crew.first);
            int room = top == NONE ? NONE : roomFor(house, top, isLed(house.number));
            if (room == NONE || now < crew.began + crew.third) {
                return;
            }
            boolean leaves = isLeaving(crew, house, room);
            crew.room = room;
            crew.main = town.headMains[nearest];
            crew.asked = leaves ? crew.second / 2 : crew.second;
            crew.floor = leaves ? NONE : house.floorOf(room);
            town.fire.water[house.place(room)] += crew.asked;
        }

        boolean isLed(int house) {
            for (int i = 0; i < number; i++) {
                if (crews[i].sort == CHIEF && crews[i].state == WORK && crews[i].house == house) {
                    return true;
                }
            }
            return false;
        }

        int roomFor(House house, int top, boolean led) {
            int best = NONE;
            int most = 0;
            for (int room = 0; room < (top + 1) * house.rooms; room++) {
                int place = house.place(room);
                if (town.fire.burns(place)) {
                    int left = town.fire.heat[place] - town.fire.water[place] / 4;
                    if (best == NONE || led && left > most) {
                        best = room;
                        most = left;
                    }
                }
            }
            return best;
        }

        boolean isLeaving(Crew crew, House house, int room) {
            int floor = house.floorOf(room);
            int limit = house.limit();
            letters[0] = floor;
            letters[1] = limit < 1 ? 0 : town.fire.load(house, floor) * 100 / limit;
            letters[2] = now - crew.began;
            letters[3] = town.fire.heat[house.place(room)];
            letters[4] = crew.men;
            letters[5] = town.fire.burningRooms(house);
            leaving.run(letters);
            return leaving.holds();
        }

        void shareWater() {
            town.fire.dry();
            Arrays.fill(askedOf, 0);
            for (int i = 0; i < number; i++) {
                if (below(crews[i].main, MOST_MAINS)) {
                    askedOf[crews[i].main] += crews[i].asked;
                }
            }
            for (int i = 0; i < number; i++) {
                if (below(crews[i].main, MOST_MAINS) && town.has(crews[i].house)) {
                    pour(crews[i], town.houses[crews[i].house]);
                }
            }
        }

        void pour(Crew crew, House house) {
            int sum = askedOf[crew.main];
            int gives = town.gives[crew.main];
            crew.got = sum <= gives || sum < 1 ? crew.asked : crew.asked * gives / sum;
            town.fire.water[house.place(crew.room)] += crew.got;
            house.gallons += crew.got;
        }

        void hurtFallen() {
            for (int i = 0; i < number; i++) {
                Crew crew = crews[i];
                if (crew.state == WORK && town.hasFloor(crew.house, crew.floor)
                        && town.fire.hasFallen(town.houses[crew.house], crew.floor)) {
                    crew.set(HURT, crew.home, NONE);
                }
            }
        }

        void closeOut() {
            for (int i = 0; i < numberOfCalls; i++) {
                Call call = calls[i];
                if (call.state == OPEN && hasWorker(call.corner) && town.worstAt(call.corner) == NONE) {
                    call.close(OUT, now);
                }
            }
        }

        boolean hasWorker(int corner) {
            for (int i = 0; i < number; i++) {
                if (crews[i].state == WORK && crews[i].post == corner) {
                    return true;
                }
            }
            return false;
        }

        void sendHome() {
            for (int i = 0; i < number; i++) {
                if (crews[i].state == WORK && town.worstAt(crews[i].post) == NONE) {
                    turnHome(crews[i]);
                }
            }
        }
    }

    /** A text as a program for a stack: conditions, and what they ask for. */
    private static final class Text {
        static final int NUMBER = 0;
        static final int LETTER = 1;
        static final int PLUS = 2;
        static final int MINUS = 3;
        static final int TIMES = 4;
        static final int EQUAL = 5;
        static final int LESS = 6;
        static final int MORE = 7;
        static final int NOT = 8;
        static final int AND = 9;
        static final int OR = 10;
        static final int HOLDS = 11;
        static final int ASK = 12;
        static final int CODE = 13;

        private static final int BOUND = 1_000_000;
        // Two for each of eight that are open, and those of the innermost: far fewer than this.
        private static final int DEEPEST = 40;
        // A clause has six bytes at least.
        private static final int MOST_CODES = 40;

        final int[] program = new int[MOST_BYTES];
        int length;
        final int[] stack = new int[DEEPEST];
        int top;
        int clauses;
        boolean holding;
        // What it answered as it ran last.
        int held;
        final int[] sums = new int[SORTS + 1];
        final int[] codes = new int[MOST_CODES];
        int found;

        void add(int kind, int value) {
            if (length < MOST_BYTES) {
                program[length] = kind << 16 | value;
                length++;
            }
        }

        void become(Text other) {
            System.arraycopy(other.program, 0, program, 0, MOST_BYTES);
            length = other.length;
        }

        void run(int[] letters) {
            top = 0;
            clauses = 0;
            holding = false;
            held = 0;
            found = 0;
            Arrays.fill(sums, 0);
            for (int i = 0; i < length; i++) {
                int value = program[i] & 0xFFFF;
                switch (program[i] >> 16) {
                    case NUMBER:
                        push(value);
                        break;
                    case LETTER:
                        push(below(value, letters.length) ? letters[value] : 0);
                        break;
                    case NOT:
                        push(1 - pop());
                        break;
                    case HOLDS:
                        beginActions(pop() != 0);
                        break;
                    case ASK:
                        ask(value / 10, value % 10);
                        break;
                    case CODE:
                        find(value);
                        break;
                    default:
                        int right = pop();
                        push(bounded(joined(program[i] >> 16, pop(), right)));
                }
            }
        }

        // Of a text that is a condition alone: an empty one never holds.
        boolean holds() {
            return top > 0 && stack[0] != 0;
        }

        void push(int value) {
            if (top < DEEPEST) {
                stack[top] = value;
                top++;
            }
        }

        int pop() {
            if (top < 1) {
                return 0;
            }
            top--;
            return stack[top];
        }

        void beginActions(boolean does) {
            holding = does;
            if (does && clauses < 30) {
                held |= 1 << clauses;
            }
            clauses++;
        }

        void ask(int sort, int more) {
            if (holding && below(sort, sums.length)) {
                sums[sort] = Math.min(9, sums[sort] + more);
            }
        }

        void find(int value) {
            if (holding && found < MOST_CODES) {
                codes[found] = value;
                found++;
            }
        }

        static long joined(int kind, int left, int right) {
            switch (kind) {
                case PLUS: return (long) left + right;
                case MINUS: return (long) left - right;
                case TIMES: return (long) left * right;
                case EQUAL: return left == right ? 1 : 0;
                case LESS: return left < right ? 1 : 0;
                case MORE: return left > right ? 1 : 0;
                case AND: return left & right;
                default: return left | right;
            }
        }

        static int bounded(long value) {
            return (int) Math.max(-BOUND, Math.min(BOUND, value));
        }
    }

    /** The bytes that are fed, and the reader that makes a text of them. */
    private static final class Tape {
        static final int MOST_LETTERS = 11;
        private static final String ORDER_LETTERS = "whfkapslco";
        private static final String LEAVING_LETTERS = "vbetmg";
        private static final String ACT_LETTERS = "srukgxwydnl";
        private static final String ACTIONS = "pslcm";
        private static final int DEEPEST = 8;
        private static final int OVER = -1;

        final int[] bytes = new int[MOST_BYTES];
        int length;
        // Where the reader is; as it fails, that is the FAULT.
        int at;
        String letters = ORDER_LETTERS;
        final Text draft = new Text();

        static int bytesIn(int word) {
            int sum = 0;
            for (int shift = 24; shift >= 0; shift -= 8) {
                sum += (word >> shift & 255) == 0 ? 0 : 1;
            }
            return sum;
        }

        void take(int word) {
            for (int shift = 24; shift >= 0; shift -= 8) {
                int next = word >> shift & 255;
                if (next != 0 && length < MOST_BYTES) {
                    bytes[length] = next;
                    length++;
                }
            }
        }

        void handOver(Text to) {
            to.become(draft);
            length = 0;
        }

        boolean parse(int sort) {
            at = 0;
            draft.length = 0;
            if (sort == LEAVING) {
                letters = LEAVING_LETTERS;
                return condition(0) && peek() == OVER;
            }
            letters = sort == ORDERS ? ORDER_LETTERS : ACT_LETTERS;
            for (int i = 0; i < MOST_BYTES; i++) {
                if (!clause(sort)) {
                    return false;
                }
                if (peek() == OVER) {
                    return true;
                }
                if (!passes(';')) {
                    return false;
                }
            }
            return false;
        }

        boolean clause(int sort) {
            if (!condition(0) || !passes('?')) {
                return false;
            }
            draft.add(Text.HOLDS, 0);
            return sort == ORDERS ? actions() : number(3, Text.CODE);
        }

        boolean actions() {
            for (int i = 0; i < MOST_BYTES; i++) {
                int sort = indexIn(ACTIONS);
                if (sort == NONE) {
                    return i > 0;
                }
                at++;
                if (!isDigit(peek())) {
                    return false;
                }
                draft.add(Text.ASK, sort * 10 + bytes[at] - '0');
                at++;
            }
            return false;
        }

        private boolean condition(int depth) {
            if (!part(depth)) {
                return false;
            }
            for (int i = 0; i < MOST_BYTES && passes('|'); i++) {
                if (!part(depth)) {
                    return false;
                }
                draft.add(Text.OR, 0);
            }
            return true;
        }

        private boolean part(int depth) {
            if (!unit(depth)) {
                return false;
            }
            for (int i = 0; i < MOST_BYTES && passes('&'); i++) {
                if (!unit(depth)) {
                    return false;
                }
                draft.add(Text.AND, 0);
            }
            return true;
        }

        private boolean unit(int depth) {
            int sign = peek();
            if (sign == '!') {
                if (!opens(depth) || !unit(depth + 1)) {
                    return false;
                }
                draft.add(Text.NOT, 0);
                return true;
            }
            if (sign == '(') {
                return opens(depth) && condition(depth + 1) && passes(')');
            }
            return comparison(depth);
        }

        private boolean comparison(int depth) {
            if (!sum(depth)) {
                return false;
            }
            int sign = peek();
            if (sign != '=' && sign != '<' && sign != '>') {
                return false;
            }
            at++;
            if (!sum(depth)) {
                return false;
            }
            draft.add(sign == '=' ? Text.EQUAL : sign == '<' ? Text.LESS : Text.MORE, 0);
            return true;
        }

        private boolean sum(int depth) {
            if (!term(depth)) {
                return false;
            }
            for (int i = 0; i < MOST_BYTES; i++) {
                int sign = peek();
                if (sign != '+' && sign != '-') {
                    return true;
                }
                at++;
                if (!term(depth)) {
                    return false;
                }
                draft.add(sign == '+' ? Text.PLUS : Text.MINUS, 0);
            }
            return true;
        }

        private boolean term(int depth) {
            if (!atom(depth)) {
                return false;
            }
            for (int i = 0; i < MOST_BYTES && passes('*'); i++) {
                if (!atom(depth)) {
                    return false;
                }
                draft.add(Text.TIMES, 0);
            }
            return true;
        }

        private boolean atom(int depth) {
            int sign = peek();
            if (sign == '[') {
                return opens(depth) && sum(depth + 1) && passes(']');
            }
            if (isDigit(sign)) {
                return number(4, Text.NUMBER);
            }
            int letter = indexIn(letters);
            if (letter == NONE) {
                return false;
            }
            draft.add(Text.LETTER, letter);
            at++;
            return true;
        }

        // A ninth one within the others is a fault at its own byte.
        boolean opens(int depth) {
            if (depth >= DEEPEST) {
                return false;
            }
            at++;
            return true;
        }

        boolean number(int digits, int kind) {
            if (!isDigit(peek())) {
                return false;
            }
            int value = 0;
            for (int i = 0; i <= digits; i++) {
                if (at >= length || !isDigit(bytes[at])) {
                    draft.add(kind, value);
                    return true;
                }
                if (i < digits) {
                    value = value * 10 + bytes[at] - '0';
                    at++;
                }
            }
            return false;
        }

        static boolean isDigit(int sign) {
            return sign >= '0' && sign <= '9';
        }

        boolean passes(int sign) {
            if (peek() != sign) {
                return false;
            }
            at++;
            return true;
        }

        int indexIn(String signs) {
            int sign = peek();
            return sign == OVER ? NONE : signs.indexOf((char) sign);
        }

        // The next byte that is no blank.
        int peek() {
            for (int i = 0; i < MOST_BYTES && at < length && bytes[at] == ' '; i++) {
                at++;
            }
            return at < length ? bytes[at] : OVER;
        }
    }

    /** The acts by years, and the looks and changes of use as they were told. */
    private static final class Law {
        private static final int DAY = 1440;
        private static final int NEVER = 999;

        final Town town;
        final Text[] texts = new Text[MOST_ACTS];
        final int[] years = new int[MOST_ACTS];
        final int[] actTold = new int[MOST_ACTS];
        int acts;
        // A look is an event without a use.
        final int[] eventHouses = new int[MOST_EVENTS];
        final int[] eventTold = new int[MOST_EVENTS];
        final int[] eventUses = new int[MOST_EVENTS];
        final int[] eventFrom = new int[MOST_EVENTS];
        int events;
        final int[] letters = new int[Tape.MOST_LETTERS];

        Law(Town town) {
            this.town = town;
            for (int i = 0; i < MOST_ACTS; i++) {
                texts[i] = new Text();
            }
        }

        // Only while there are fewer acts than twelve.
        int addAct(int year, int now) {
            years[acts] = year;
            actTold[acts] = now;
            acts++;
            return acts - 1;
        }

        boolean tell(int house, int now, int use, int from) {
            if (events >= MOST_EVENTS) {
                return false;
            }
            eventHouses[events] = house;
            eventTold[events] = now;
            eventUses[events] = use;
            eventFrom[events] = from;
            events++;
            return true;
        }

        boolean wasChanged(int house) {
            for (int i = 0; i < events; i++) {
                if (eventHouses[i] == house && eventUses[i] != NONE) {
                    return true;
                }
            }
            return false;
        }

        int actFor(int house, int q) {
            int best = NONE;
            for (int i = 0; i < acts; i++) {
                boolean fits = actTold[i] <= q && years[i] <= town.houses[house].year;
                if (fits && (best == NONE || years[i] >= years[best])) {
                    best = i;
                }
            }
            return best;
        }

        int useAt(int house, int q) {
            int best = NONE;
            for (int i = 0; i < events; i++) {
                boolean fits = eventHouses[i] == house && eventUses[i] != NONE && eventTold[i] <= q;
                if (fits && (best == NONE || eventFrom[i] >= eventFrom[best])) {
                    best = i;
                }
            }
            return best == NONE ? town.houses[house].use : eventUses[best];
        }

        int daysSinceLook(int house, int q) {
            int days = NEVER;
            for (int i = 0; i < events; i++) {
                if (eventHouses[i] == house && eventUses[i] == NONE && eventTold[i] <= q) {
                    days = (q - eventTold[i]) / DAY;
                }
            }
            return days;
        }

        int failures(int house, int q) {
            int act = actFor(house, q);
            if (!below(act, acts)) {
                return 0;
            }
            spell(town.houses[house], q);
            texts[act].run(letters);
            return texts[act].found;
        }

        int codeAt(int house, int q, int i) {
            int act = actFor(house, q);
            return below(act, acts) && below(i, failures(house, q)) ? texts[act].codes[i] : NONE;
        }

        void spell(House house, int q) {
            int greatest = 0;
            for (int f = 0; f < house.floors; f++) {
                greatest = Math.max(greatest, house.told[f]);
            }
            letters[0] = house.floors;
            letters[1] = house.rooms;
            letters[2] = useAt(house.number, q);
            letters[3] = house.kind;
            letters[4] = greatest;
            letters[5] = house.shaft == NONE ? 0 : 1;
            letters[6] = house.wall;
            letters[7] = house.year;
            letters[8] = house.doors ? 1 : 0;
            letters[9] = house.beside();
            letters[10] = daysSinceLook(house.number, q);
        }
    }

    /** Rounds of looks, and plans of stations. */
    private static final class Survey {
        private static final int LOOK = 10;
        private static final int BASE = MOST_STOPS;

        final Streets streets;
        final Town town;
        final Law law;
        // The houses that a round may look at.
        final int[] stopHouses = new int[MOST_STOPS];
        final int[] stopWorths = new int[MOST_STOPS];
        int candidates;
        // By sets of these, as bits.
        final int[] worths = new int[1 << MOST_STOPS];
        // By the stops that are left (as bits) and the one where one is: the least minutes till one is back.
        final int[] rest = new int[(1 << MOST_STOPS) * MOST_STOPS];
        int base;
        // Minutes from one stop (or the base) to another one, with the look there.
        final int[] steps = new int[(MOST_STOPS + 1) * MOST_STOPS];
        int worth;
        int minutes;
        int stops;
        final int[] order = new int[MOST_STOPS];
        final int[] near = new int[CORNERS];
        final int[] callsAt = new int[CORNERS];
        int points;
        int chosen;

        Survey(Streets streets, Town town, Law law) {
            this.streets = streets;
            this.town = town;
            this.law = law;
        }

        void goRound(int corner, int within, int now) {
            base = corner;
            findStops(now);
            fillWorths();
            fillSteps();
            fillRest();
            findBest(within);
            findOrder();
        }

        void findStops(int now) {
            candidates = 0;
            for (int h = 0; h < town.number && candidates < MOST_STOPS; h++) {
                if (streets.walk(base, town.houses[h].corner) < FAR) {
                    stopHouses[candidates] = h;
                    stopWorths[candidates] = 10 * law.failures(h, now) + Math.min(30, law.daysSinceLook(h, now));
                    candidates++;
                }
            }
        }

        int cornerOf(int stop) {
            return town.houses[stopHouses[stop]].corner;
        }

        void fillSteps() {
            for (int to = 0; to < candidates; to++) {
                for (int from = 0; from < candidates; from++) {
                    steps[from * MOST_STOPS + to] = streets.walk(cornerOf(from), cornerOf(to)) + LOOK;
                }
                steps[BASE * MOST_STOPS + to] = streets.walk(base, cornerOf(to)) + LOOK;
            }
        }

        void fillRest() {
            for (int left = 0; left < 1 << candidates; left++) {
                for (int from = 0; from < candidates; from++) {
                    int least = left == 0 ? streets.walk(cornerOf(from), base) : FAR;
                    for (int to = 0; to < candidates; to++) {
                        if ((left >> to & 1) == 1) {
                            least = Math.min(least, through(left, from, to));
                        }
                    }
                    rest[left * MOST_STOPS + from] = least;
                }
            }
        }

        void fillWorths() {
            for (int set = 0; set < 1 << candidates; set++) {
                worths[set] = 0;
                for (int i = 0; i < candidates; i++) {
                    worths[set] += (set >> i & 1) * stopWorths[i];
                }
            }
        }

        // Minutes from where one is through all stops of a set, one of them first, and back to the base.
        int through(int set, int at, int first) {
            return steps[at * MOST_STOPS + first] + rest[(set & ~(1 << first)) * MOST_STOPS + first];
        }

        void findBest(int within) {
            worth = 0;
            minutes = 0;
            for (int set = 1; set < 1 << candidates; set++) {
                int its = worths[set];
                for (int first = 0; first < candidates; first++) {
                    if ((set >> first & 1) == 0) {
                        continue;
                    }
                    int takes = through(set, BASE, first);
                    if (takes <= within && (its > worth || its == worth && takes < minutes)) {
                        worth = its;
                        minutes = takes;
                    }
                }
            }
        }

        // Stop by stop the lowest house that some best round goes on with.
        void findOrder() {
            stops = 0;
            int seen = 0;
            int at = BASE;
            int used = 0;
            for (int i = 0; i < candidates && used < minutes; i++) {
                int next = nextStop(seen, at, used);
                if (next == NONE) {
                    return;
                }
                order[stops] = stopHouses[next];
                stops++;
                used += steps[at * MOST_STOPS + next];
                seen |= 1 << next;
                at = next;
            }
        }

        int nextStop(int seen, int at, int used) {
            for (int stop = 0; stop < candidates; stop++) {
                if ((seen >> stop & 1) == 0 && isBestWith(seen, at, used, stop)) {
                    return stop;
                }
            }
            return NONE;
        }

        boolean isBestWith(int seen, int at, int used, int stop) {
            for (int set = 0; set < 1 << candidates; set++) {
                boolean fits = (set & seen) == 0 && (set >> stop & 1) == 1;
                if (fits && worths[set | seen] == worth && used + through(set, at, stop) == minutes) {
                    return true;
                }
            }
            return false;
        }

        void findNear(int limit) {
            for (int c = 0; c < CORNERS; c++) {
                near[c] = 0;
                for (int from = 0; from < CORNERS; from++) {
                    if (streets.walk(from, c) <= limit) {
                        near[c] |= 1 << from;
                    }
                }
            }
        }

        int pointsAt(int corner, int set) {
            int reaching = Integer.bitCount(near[corner] & set);
            return reaching == 0 ? 0 : reaching == 1 ? 2 : 3;
        }

        void makePlan(int n, int limit, Brigade brigade) {
            findNear(limit);
            Arrays.fill(callsAt, 0);
            for (int i = 0; i < brigade.numberOfCalls; i++) {
                callsAt[brigade.calls[i].corner]++;
            }
            points = NONE;
            chosen = 0;
            choose(n, 0, 0);
        }

        // Sets come by their lower corners first, so only a better one takes the place of another.
        private void choose(int left, int from, int set) {
            if (left <= 0) {
                weigh(set);
                return;
            }
            for (int c = from; c <= CORNERS - left; c++) {
                choose(left - 1, c + 1, set | 1 << c);
            }
        }

        void weigh(int set) {
            int sum = 0;
            for (int c = 0; c < CORNERS; c++) {
                sum += callsAt[c] * pointsAt(c, set);
            }
            if (sum > points) {
                points = sum;
                chosen = set;
            }
        }

        static int bitAt(int set, int i) {
            int seen = 0;
            for (int c = 0; c < CORNERS; c++) {
                if ((set >> c & 1) == 1) {
                    if (seen == i) {
                        return c;
                    }
                    seen++;
                }
            }
            return NONE;
        }
    }
}
