import java.util.ArrayList;

/** An office that slings stores to huts; the words in capitals are those of the document's terms. */
public final class HutLift {
    public static final int NONE = -1, FULL = -2, STATE = -3;

    /** NONE of the calls for which -1 is an ordinary answer. */
    private static final int NOT_TOLD = -9;
    private static final int NOT_SAID = -2000000000;

    private static final int LAST_MINUTE = 720;
    private static final int LAST_HOUR = 11;
    private static final int HOUR_LENGTH = 60;
    /** Behind every minute that there is, also behind the end of the longest rest. */
    private static final int NEVER = 9999;

    private static final int MOST_PLACES = 12;
    private static final int MOST_MACHINES = 4;
    private static final int MOST_PILOTS = 6;
    private static final int MOST_LOADS = 80;
    private static final int MOST_RULES = 10;
    private static final int MOST_FLIGHTS = 200;
    private static final int MOST_LISTED = 5;
    private static final int MOST_PACKED = 9;
    private static final int MOST_ROOM = 9;
    private static final int TAPE_LENGTH = 60;
    private static final int PILE_HEIGHT = 20;

    private static final int LONG = 1, COLD = 2, DANGER = 3, DOWN = 4;
    private static final int WAITS = 0, HANGS = 1, FLIES = 2, SHELVED = 3;

    private static final int UNLOADING = 2;
    private static final int SPARE_FUEL = 10;
    private static final int COLD_KEEPS = 90;

    /** The NAMES of the rules; the places of the letters are the indices below. */
    private static final String NAMES = "wtshmpeklnf";
    private static final int N_WIND = 0, N_WARMTH = 1, N_SIGHT = 2, N_HOUR = 3, N_MINUTE = 4, N_PLACE = 5,
            N_HEIGHT = 6, N_KIND = 7, N_WEIGHT = 8, N_HANGING = 9, N_FLOWN = 10, NAME_COUNT = 11;

    /** A step of a RULE below FIRST_NAME is a number, then come names, from FIRST_SIGN on signs. */
    private static final int FIRST_NAME = 1000, FIRST_SIGN = 2000;

    private final ArrayList<Place> places = new ArrayList<>();
    private final ArrayList<Machine> machines = new ArrayList<>();
    private final ArrayList<Pilot> pilots = new ArrayList<>();
    private final ArrayList<Load> loads = new ArrayList<>();
    private final ArrayList<Flight> flights = new ArrayList<>();
    private final Weather weather = new Weather();
    private final Tape tape = new Tape();
    private final RuleBook book = new RuleBook();
    private final Packer packer = new Packer();
    private final OrderSearch search = new OrderSearch();
    /** Chosen anew for each flight that is looked at, so that looking makes no list. */
    private final ArrayList<Load> riders = new ArrayList<>();
    private int minute;

    public HutLift() {
        places.add(new Place(0, 0, 0));
    }

    // ---- what there is

    public int place(int height, int way) {
        if (!isWithin(height, 0, 9) || !isWithin(way, 1, 60)) {
            return NONE;
        }
        if (places.size() >= MOST_PLACES) {
            return FULL;
        }
        places.add(new Place(places.size(), height, way));
        return places.size() - 1;
    }

    public int machine(int base, int tank) {
        if (!isWithin(base, 1, 200) || !isWithin(tank, 1, 2000)) {
            return NONE;
        }
        if (machines.size() >= MOST_MACHINES) {
            return FULL;
        }
        machines.add(new Machine(base, tank));
        return machines.size() - 1;
    }

    public int pilot(int most, int rest) {
        if (!isWithin(most, 0, LAST_MINUTE) || !isWithin(rest, 0, 120)) {
            return NONE;
        }
        if (pilots.size() >= MOST_PILOTS) {
            return FULL;
        }
        pilots.add(new Pilot(most, rest));
        return pilots.size() - 1;
    }

    public int load(int what, int weight, int ready, int due) {
        if (!isCargo(what) || !isWithin(weight, 1, 99)) {
            return NONE;
        }
        if (!isWithin(ready, 0, LAST_MINUTE) || !isWithin(due, 0, LAST_MINUTE)) {
            return NONE;
        }
        if (loads.size() >= MOST_LOADS) {
            return FULL;
        }
        loads.add(new Load(loads.size(), what, weight, ready, due));
        return loads.size() - 1;
    }

    public int hour(int hour, int wind, int warmth, int sight) {
        if (!isWithin(hour, 0, LAST_HOUR) || !isWithin(wind, -1, 9)) {
            return NONE;
        }
        if (!isWithin(warmth, -1, 9) || !isWithin(sight, -1, 9)) {
            return NONE;
        }
        weather.foretell(hour, wind, warmth, sight);
        return 1;
    }

    // ---- rules

    public int feed(int n, int v) {
        if (!isWithin(n, 1, 4)) {
            return NONE;
        }
        if (tape.length + n > TAPE_LENGTH) {
            return FULL;
        }
        tape.write(n, v);
        return tape.length;
    }

    public int rule() {
        if (book.rules.size() >= MOST_RULES) {
            return FULL;
        }
        int fault = tape.firstFault();
        if (fault < 0) {
            book.rules.add(tape.asRule());
        }
        tape.length = 0;
        return fault < 0 ? book.rules.size() - 1 : -100 - fault;
    }

    public int drop() {
        int last = book.rules.size() - 1;
        if (last < 0) {
            return STATE;
        }
        book.rules.remove(last);
        return last;
    }

    public int says(int i, int machine, int pilot, int place) {
        if (!isWithin(i, 0, book.rules.size() - 1) || !isFlight(machine, pilot, place)) {
            return NOT_SAID;
        }
        askAbout(machine, pilot, place);
        return book.workOut(book.rules.get(i));
    }

    // ---- flying

    public int hang(int machine, int load) {
        if (!isMachine(machine) || !isLoad(load)) {
            return NONE;
        }
        Machine hook = machines.get(machine);
        Load hung = loads.get(load);
        if (hook.free > minute || !hung.canBeHung(minute) || !hook.takes(hung)) {
            return STATE;
        }
        hook.hanging.add(hung);
        hung.state = HANGS;
        hung.machine = machine;
        return hook.hanging.size();
    }

    public int off(int load) {
        if (!isLoad(load)) {
            return NONE;
        }
        Load hung = loads.get(load);
        if (hung.state != HANGS || !isMachine(hung.machine)) {
            return STATE;
        }
        Machine hook = machines.get(hung.machine);
        hook.unhook(hung);
        hung.state = WAITS;
        hung.machine = NONE;
        return hook.hanging.size();
    }

    public int may(int machine, int pilot, int place) {
        if (!isFlight(machine, pilot, place)) {
            return NONE;
        }
        return whyNot(planned(machine, pilot, place));
    }

    public int fly(int machine, int pilot, int place) {
        if (!isFlight(machine, pilot, place)) {
            return NONE;
        }
        Flight plan = planned(machine, pilot, place);
        int why = whyNot(plan);
        if (why != 0) {
            return -10 - why;
        }
        if (flights.size() >= MOST_FLIGHTS) {
            return FULL;
        }
        begin(plan);
        return flights.size() - 1;
    }

    public int fuel(int machine) {
        if (!isMachine(machine)) {
            return NONE;
        }
        Machine filled = machines.get(machine);
        if (filled.free > minute) {
            return STATE;
        }
        int came = filled.tank - filled.fuel;
        filled.fuel = filled.tank;
        return came;
    }

    public int minute(int n) {
        if (!isWithin(n, 1, 120) || minute + n > LAST_MINUTE) {
            return NONE;
        }
        minute += n;
        for (int i = 0; i < loads.size(); i++) {
            loads.get(i).shelveBy(minute);
        }
        return minute;
    }

    // ---- what is told

    public int about(int machine, int what) {
        if (!isMachine(machine)) {
            return NOT_TOLD;
        }
        Machine asked = machines.get(machine);
        switch (what) {
            case 0: return asked.fuel;
            case 1: return asked.free;
            case 2: return asked.hanging.size();
            case 3: return weightOf(asked.hanging);
            case 4: return asked.strength(0, weather.warmthAt(minute));
            default: return NOT_TOLD;
        }
    }

    public int pilotOf(int pilot, int what) {
        if (!isPilot(pilot)) {
            return NOT_TOLD;
        }
        Pilot asked = pilots.get(pilot);
        switch (what) {
            case 0: return asked.flown;
            case 1: return asked.free;
            case 2: return asked.most - asked.flown;
            default: return NOT_TOLD;
        }
    }

    public int cargo(int load, int what) {
        if (!isLoad(load)) {
            return NOT_TOLD;
        }
        Load asked = loads.get(load);
        switch (what) {
            case 0: return asked.state;
            case 1: return asked.machine;
            case 2: return asked.flight;
            case 3: return asked.shelved;
            case 4: return asked.isLate() ? 1 : 0;
            case 5: return asked.cost;
            default: return NOT_TOLD;
        }
    }

    public int flight(int i, int what) {
        if (!isWithin(i, 0, flights.size() - 1)) {
            return NOT_TOLD;
        }
        Flight asked = flights.get(i);
        switch (what) {
            case 0: return asked.machine;
            case 1: return asked.pilot;
            case 2: return asked.place;
            case 3: return asked.begin;
            case 4: return asked.set;
            case 5: return asked.back;
            case 6: return asked.burnt;
            case 7: return asked.hung;
            case 8: return asked.riders;
            default: return NOT_TOLD;
        }
    }

    public int lift(int machine, int place, int hour) {
        if (!isMachine(machine) || !isWithin(place, 0, places.size() - 1) || !isWithin(hour, 0, LAST_HOUR)) {
            return NOT_TOLD;
        }
        return machines.get(machine).strength(places.get(place).height, weather.warmthAt(hour * HOUR_LENGTH));
    }

    // ---- search

    public int pack(int place, int lift) {
        if (!isHut(place) || !isWithin(lift, 0, 400)) {
            return NONE;
        }
        packer.gather(loads, place);
        if (packer.packed.size() > MOST_PACKED) {
            return FULL;
        }
        return packer.fewestNets(lift);
    }

    public int list(int place) {
        if (!isHut(place)) {
            return NONE;
        }
        if (search.size >= MOST_LISTED) {
            return FULL;
        }
        search.want(places.get(place));
        return search.size;
    }

    public int order(int machine, int pilot) {
        if (!isMachine(machine) || !isPilot(pilot)) {
            return NONE;
        }
        Machine flown = machines.get(machine);
        if (search.size == 0 || !flown.hanging.isEmpty()) {
            return STATE;
        }
        Pilot flying = pilots.get(pilot);
        if (!search.canAfford(flown, flying)) {
            return STATE;
        }
        book.setHanging(flown);
        int ready = Math.max(minute, Math.max(flown.free, flying.free));
        if (!search.findOrder(book, weather, flying, ready)) {
            return STATE;
        }
        return search.best;
    }

    public int ordered(int i) {
        return isWithin(i, 0, search.foundSize - 1) ? search.found[i] : NONE;
    }

    public int count(int what) {
        switch (what) {
            case 0: return places.size();
            case 1: return machines.size();
            case 2: return pilots.size();
            case 3: return loads.size();
            case 4: return book.rules.size();
            case 5: return flights.size();
            case 6: return minute;
            case 7: return shelvedLoads();
            case 8: return lateLoads();
            case 9: return tape.length;
            default: return NONE;
        }
    }

    // ---- what the calls share

    private static boolean isWithin(int value, int least, int most) {
        return value >= least && value <= most;
    }

    private boolean isMachine(int machine) {
        return isWithin(machine, 0, machines.size() - 1);
    }

    private boolean isPilot(int pilot) {
        return isWithin(pilot, 0, pilots.size() - 1);
    }

    private boolean isLoad(int load) {
        return isWithin(load, 0, loads.size() - 1);
    }

    /** A PLACE that is not the VALLEY: only there loads and flights go. */
    private boolean isHut(int place) {
        return isWithin(place, 1, places.size() - 1);
    }

    private boolean isFlight(int machine, int pilot, int place) {
        return isMachine(machine) && isPilot(pilot) && isHut(place);
    }

    private boolean isCargo(int what) {
        return what >= 0 && what / 10000 <= DOWN && isHut(what / 100 % 100) && isWithin(what % 100, 1, MOST_ROOM);
    }

    private static int weightOf(ArrayList<Load> some) {
        int weight = 0;
        for (int i = 0; i < some.size(); i++) {
            weight += some.get(i).weight;
        }
        return weight;
    }

    private static int roomOf(ArrayList<Load> some) {
        int room = 0;
        for (int i = 0; i < some.size(); i++) {
            room += some.get(i).room;
        }
        return room;
    }

    private int shelvedLoads() {
        int shelved = 0;
        for (int i = 0; i < loads.size(); i++) {
            shelved += loads.get(i).state == SHELVED ? 1 : 0;
        }
        return shelved;
    }

    private int lateLoads() {
        int late = 0;
        for (int i = 0; i < loads.size(); i++) {
            late += loads.get(i).isLate() ? 1 : 0;
        }
        return late;
    }

    private void askAbout(int machine, int pilot, int place) {
        book.setTime(weather, minute);
        book.setGoal(places.get(place));
        book.setHanging(machines.get(machine));
        book.setFlown(pilots.get(pilot).flown);
    }

    /** The flight as it would be now; its riders are left in the field riders. */
    private Flight planned(int machine, int pilot, int place) {
        Machine flown = machines.get(machine);
        Place goal = places.get(place);
        int way = flown.carries(LONG) ? 2 * goal.way : goal.way;
        Flight plan = new Flight(machine, pilot, place, minute, way);
        chooseRiders(place, plan.set, flown.strength(goal.height, weather.warmthAt(plan.set)));
        plan.hung = flown.hanging.size();
        plan.riders = riders.size();
        plan.burnt = way * (2 + weightOf(flown.hanging) / 20) + way * (2 + weightOf(riders) / 20);
        return plan;
    }

    private void chooseRiders(int place, int set, int lift) {
        riders.clear();
        int weight = 0;
        int room = 0;
        for (int i = 0; i < loads.size(); i++) {
            Load load = loads.get(i);
            if (!load.waitsFor(place) || load.kind != DOWN || load.ready > set) {
                continue;
            }
            if (weight + load.weight <= lift && room + load.room <= MOST_ROOM) {
                riders.add(load);
                weight += load.weight;
                room += load.room;
            }
        }
    }

    private int whyNot(Flight plan) {
        Machine flown = machines.get(plan.machine);
        Pilot flying = pilots.get(plan.pilot);
        if (flown.free > minute) {
            return 1;
        }
        if (flying.free > minute) {
            return 2;
        }
        if (flown.hangsForOther(plan.place)) {
            return 3;
        }
        if (plan.back > LAST_MINUTE) {
            return 4;
        }
        if (isTooHeavy(flown, plan)) {
            return 5;
        }
        if (plan.burnt + SPARE_FUEL > flown.fuel) {
            return 6;
        }
        if (flying.flown + plan.back - plan.begin > flying.most) {
            return 7;
        }
        if (flown.spoils(plan.set)) {
            return 8;
        }
        askAbout(plan.machine, plan.pilot, plan.place);
        int broken = book.firstBroken();
        return broken < 0 ? 0 : 10 + broken;
    }

    private boolean isTooHeavy(Machine flown, Flight plan) {
        int weight = weightOf(flown.hanging);
        int height = places.get(plan.place).height;
        return weight > flown.strength(0, weather.warmthAt(minute))
                || weight > flown.strength(height, weather.warmthAt(plan.set));
    }

    private void begin(Flight plan) {
        Machine flown = machines.get(plan.machine);
        Pilot flying = pilots.get(plan.pilot);
        flown.fuel -= plan.burnt;
        flown.free = plan.back;
        flying.free = plan.back + flying.rest;
        flying.flown += plan.back - plan.begin;
        partMinutes(plan.back - plan.begin, flown.hanging, riders);
        takeAlong(flown.hanging, flights.size(), plan.set);
        takeAlong(riders, flights.size(), plan.back);
        flown.hanging.clear();
        flights.add(plan);
    }

    private static void takeAlong(ArrayList<Load> some, int flight, int lands) {
        for (int i = 0; i < some.size(); i++) {
            Load load = some.get(i);
            load.state = FLIES;
            load.machine = NONE;
            load.flight = flight;
            load.lands = lands;
        }
    }

    private static void partMinutes(int minutes, ArrayList<Load> hung, ArrayList<Load> riding) {
        int weight = weightOf(hung) + weightOf(riding);
        if (weight <= 0) {
            return;
        }
        int given = giveShares(hung, minutes, weight) + giveShares(riding, minutes, weight);
        Load least = lesserOf(leastOf(hung), leastOf(riding));
        if (least != null) {
            least.cost += minutes - given;
        }
    }

    /** weight is above 0. */
    private static int giveShares(ArrayList<Load> some, int minutes, int weight) {
        int given = 0;
        for (int i = 0; i < some.size(); i++) {
            Load load = some.get(i);
            load.cost = minutes * load.weight / weight;
            given += load.cost;
        }
        return given;
    }

    /** What hangs lies in the order of hanging, so the first one need not be the least. */
    private static Load leastOf(ArrayList<Load> some) {
        Load least = null;
        for (int i = 0; i < some.size(); i++) {
            least = lesserOf(least, some.get(i));
        }
        return least;
    }

    private static Load lesserOf(Load one, Load other) {
        if (one == null) {
            return other;
        }
        return other == null || one.number < other.number ? one : other;
    }

    private static final class Place {
        final int number;
        final int height;
        final int way;

        Place(int number, int height, int way) {
            this.number = number;
            this.height = height;
            this.way = way;
        }

        /** Of a flight with nothing hanging. */
        int minutesThereAndBack() {
            return 2 * way + UNLOADING;
        }
    }

    private static final class Machine {
        final int base;
        final int tank;
        /** Never more than nine, for each takes a ROOM of one at least. */
        final ArrayList<Load> hanging = new ArrayList<>();
        int fuel;
        int free;

        Machine(int base, int tank) {
            this.base = base;
            this.tank = tank;
            this.fuel = tank;
        }

        int strength(int height, int warmth) {
            return Math.max(0, base - 4 * height - warmth);
        }

        boolean takes(Load more) {
            if (hanging.isEmpty()) {
                return true;
            }
            if (more.hangsAlone() || hanging.get(0).hangsAlone() || hangsForOther(more.place)) {
                return false;
            }
            return roomOf(hanging) + more.room <= MOST_ROOM;
        }

        /** All that hang have one PLACE, so the first one tells it. */
        boolean hangsForOther(int place) {
            return !hanging.isEmpty() && hanging.get(0).place != place;
        }

        boolean carries(int kind) {
            for (int i = 0; i < hanging.size(); i++) {
                if (hanging.get(i).kind == kind) {
                    return true;
                }
            }
            return false;
        }

        int greatestKind() {
            int greatest = 0;
            for (int i = 0; i < hanging.size(); i++) {
                greatest = Math.max(greatest, hanging.get(i).kind);
            }
            return greatest;
        }

        boolean spoils(int set) {
            for (int i = 0; i < hanging.size(); i++) {
                Load load = hanging.get(i);
                if (load.kind == COLD && set - load.ready > COLD_KEEPS) {
                    return true;
                }
            }
            return false;
        }

        void unhook(Load load) {
            for (int i = 0; i < hanging.size(); i++) {
                if (hanging.get(i) == load) {
                    hanging.remove(i);
                    return;
                }
            }
        }
    }

    private static final class Pilot {
        final int most;
        final int rest;
        int flown;
        int free;

        Pilot(int most, int rest) {
            this.most = most;
            this.rest = rest;
        }
    }

    private static final class Load {
        final int number;
        final int kind;
        final int place;
        final int room;
        final int weight;
        final int ready;
        final int due;
        int state = WAITS;
        int machine = NONE;
        int flight = NONE;
        /** The minute at which the flight shelves it; of use only while it FLIES. */
        int lands;
        int shelved = NONE;
        int cost;

        Load(int number, int what, int weight, int ready, int due) {
            this.number = number;
            this.kind = what / 10000;
            this.place = what / 100 % 100;
            this.room = what % 100;
            this.weight = weight;
            this.ready = ready;
            this.due = due;
        }

        boolean hangsAlone() {
            return kind == DANGER || kind == LONG;
        }

        boolean canBeHung(int now) {
            return state == WAITS && ready <= now && kind != DOWN;
        }

        boolean waitsFor(int hut) {
            return state == WAITS && place == hut;
        }

        void shelveBy(int now) {
            if (state == FLIES && lands <= now) {
                state = SHELVED;
                shelved = lands;
            }
        }

        boolean isLate() {
            return state == SHELVED && shelved > due;
        }
    }

    private static final class Flight {
        final int machine;
        final int pilot;
        final int place;
        final int begin;
        final int set;
        final int back;
        int burnt;
        int hung;
        int riders;

        Flight(int machine, int pilot, int place, int begin, int way) {
            this.machine = machine;
            this.pilot = pilot;
            this.place = place;
            this.begin = begin;
            this.set = begin + way;
            this.back = begin + way + UNLOADING + way;
        }
    }

    private static final class Weather {
        final int[] wind = new int[LAST_HOUR + 1];
        final int[] warmth = new int[LAST_HOUR + 1];
        final int[] sight = {9, 9, 9, 9, 9, 9, 9, 9, 9, 9, 9, 9};

        void foretell(int hour, int newWind, int newWarmth, int newSight) {
            wind[hour] = newWind < 0 ? 9 : newWind;
            warmth[hour] = newWarmth < 0 ? 9 : newWarmth;
            sight[hour] = newSight < 0 ? 0 : newSight;
        }

        /** A SET that is looked at may lie behind the last minute: it counts to the last hour. */
        static int hourOf(int minute) {
            return Math.max(0, Math.min(LAST_HOUR, minute / HOUR_LENGTH));
        }

        int warmthAt(int minute) {
            return warmth[hourOf(minute)];
        }
    }

    private static final class Tape {
        final int[] bytes = new int[TAPE_LENGTH];
        int length;

        void write(int n, int v) {
            for (int i = 0; i < n && length < bytes.length; i++) {
                bytes[length] = v >>> (8 * i) & 255;
                length++;
            }
        }

        /** -1 if there is none. */
        int firstFault() {
            int lying = 0;
            int digits = 0;
            for (int i = 0; i < length; i++) {
                digits = isDigit(bytes[i]) ? digits + 1 : 0;
                if (digits > 3) {
                    return i;
                }
                if (digits > 1 || bytes[i] == ' ') {
                    continue;
                }
                int taken = takenBy(bytes[i]);
                if (taken < 0 || lying < taken) {
                    return i;
                }
                lying += 1 - taken;
                if (lying > PILE_HEIGHT) {
                    return i;
                }
            }
            return lying == 1 ? -1 : length;
        }

        /** The text must have no fault. */
        Rule asRule() {
            int[] steps = new int[length];
            int size = 0;
            boolean inNumber = false;
            for (int i = 0; i < length; i++) {
                boolean digit = isDigit(bytes[i]);
                if (digit && inNumber && size > 0) {
                    steps[size - 1] = steps[size - 1] * 10 + bytes[i] - '0';
                } else if (bytes[i] != ' ') {
                    steps[size] = stepOf(bytes[i]);
                    size++;
                }
                inNumber = digit;
            }
            return new Rule(steps, size);
        }

        static boolean isDigit(int b) {
            return b >= '0' && b <= '9';
        }

        /** How many a byte takes from the pile, on which it lays one; -1 for one that means nothing. */
        static int takenBy(int b) {
            switch (b) {
                case '+': case '-': case '*': case '<': case '=': case '>': case '&': case '|':
                    return 2;
                case '!':
                    return 1;
                default:
                    return isDigit(b) || NAMES.indexOf((char) b) >= 0 ? 0 : -1;
            }
        }

        static int stepOf(int b) {
            if (isDigit(b)) {
                return b - '0';
            }
            int name = NAMES.indexOf((char) b);
            return name >= 0 ? FIRST_NAME + name : FIRST_SIGN + b;
        }
    }

    private static final class Rule {
        final int[] steps;
        final int size;
        final boolean asksMinute;
        final boolean asksHour;

        Rule(int[] steps, int size) {
            this.steps = steps;
            this.size = Math.min(size, steps.length);
            boolean minuteAsked = false;
            boolean hourAsked = false;
            for (int i = 0; i < this.size; i++) {
                int name = steps[i] - FIRST_NAME;
                minuteAsked = minuteAsked || name == N_MINUTE;
                hourAsked = hourAsked || isWithin(name, N_WIND, N_HOUR);
            }
            this.asksMinute = minuteAsked;
            this.asksHour = hourAsked;
        }

        /** The first minute behind this one at which the rule may give something else. */
        int nextChange(int now) {
            if (asksMinute) {
                return now + 1;
            }
            return asksHour ? (now / HOUR_LENGTH + 1) * HOUR_LENGTH : LAST_MINUTE + 1;
        }
    }

    private static final class RuleBook {
        final ArrayList<Rule> rules = new ArrayList<>();
        final int[] names = new int[NAME_COUNT];
        final int[] pile = new int[PILE_HEIGHT];
        int lying;

        void setTime(Weather weather, int minute) {
            int hour = Weather.hourOf(minute);
            names[N_WIND] = weather.wind[hour];
            names[N_WARMTH] = weather.warmth[hour];
            names[N_SIGHT] = weather.sight[hour];
            names[N_HOUR] = hour;
            names[N_MINUTE] = minute;
        }

        void setGoal(Place goal) {
            names[N_PLACE] = goal.number;
            names[N_HEIGHT] = goal.height;
        }

        void setHanging(Machine machine) {
            names[N_KIND] = machine.greatestKind();
            names[N_WEIGHT] = weightOf(machine.hanging);
            names[N_HANGING] = machine.hanging.size();
        }

        void setFlown(int flown) {
            names[N_FLOWN] = flown;
        }

        /** -1 if all hold. */
        int firstBroken() {
            for (int i = 0; i < rules.size(); i++) {
                if (workOut(rules.get(i)) == 0) {
                    return i;
                }
            }
            return -1;
        }

        /** The first minute from .. last at which all rules hold, or -1. */
        int firstMinute(Weather weather, int from, int last) {
            int now = from;
            int broken = -1;
            while (now <= last) {
                setTime(weather, now);
                // the rule that did not hold a minute ago is asked alone: mostly it does not hold now either
                if (broken < 0 || workOut(rules.get(broken)) != 0) {
                    broken = firstBroken();
                }
                if (broken < 0) {
                    return now;
                }
                now = Math.max(now + 1, rules.get(broken).nextChange(now));
            }
            return -1;
        }

        int workOut(Rule rule) {
            lying = 0;
            for (int i = 0; i < rule.size; i++) {
                int step = rule.steps[i];
                if (step < FIRST_NAME) {
                    lay(step);
                } else if (step < FIRST_SIGN) {
                    lay(named(step - FIRST_NAME));
                } else if (step == FIRST_SIGN + '!') {
                    lay(take() == 0 ? 1 : 0);
                } else {
                    int right = take();
                    lay(joined(step - FIRST_SIGN, take(), right));
                }
            }
            return take();
        }

        private static int joined(int sign, int left, int right) {
            switch (sign) {
                case '+': return left + right;
                case '-': return left - right;
                case '*': return left * right;
                case '<': return left < right ? 1 : 0;
                case '=': return left == right ? 1 : 0;
                case '>': return left > right ? 1 : 0;
                case '&': return left != 0 && right != 0 ? 1 : 0;
                default: return left != 0 || right != 0 ? 1 : 0;
            }
        }

        private int named(int name) {
            return name >= 0 && name < names.length ? names[name] : 0;
        }

        private void lay(int value) {
            if (lying < pile.length) {
                pile[lying] = value;
                lying++;
            }
        }

        private int take() {
            if (lying <= 0) {
                return 0;
            }
            lying--;
            return pile[lying];
        }
    }

    private static final class Packer {
        final ArrayList<Load> packed = new ArrayList<>();
        /** Of each net; what is tried is taken out again, so that all are empty between two calls. */
        final int[] weights = new int[MOST_PACKED];
        final int[] rooms = new int[MOST_PACKED];
        int lift;
        int fewest;

        void gather(ArrayList<Load> loads, int place) {
            packed.clear();
            for (int i = 0; i < loads.size(); i++) {
                Load load = loads.get(i);
                if (load.waitsFor(place) && load.kind != DOWN) {
                    packed.add(load);
                }
            }
        }

        /** STATE if there is no way. */
        int fewestNets(int limit) {
            for (int i = 0; i < packed.size(); i++) {
                if (packed.get(i).weight > limit) {
                    return STATE;
                }
            }
            lift = limit;
            fewest = packed.size() + 1;
            putFrom(0, 0);
            return fewest;
        }

        /** Tries the loads from the i-th on, those ahead of it lying in the first nets; as deep as loads are packed. */
        private void putFrom(int i, int nets) {
            if (nets >= fewest) {
                return;
            }
            if (i >= packed.size()) {
                fewest = nets;
                return;
            }
            Load load = packed.get(i);
            // one that goes alone fills a net, so that it fits no other and none fits it
            int room = load.hangsAlone() ? MOST_ROOM : load.room;
            for (int net = 0; net <= nets && net < MOST_PACKED; net++) {
                if (weights[net] + load.weight <= lift && rooms[net] + room <= MOST_ROOM) {
                    weights[net] += load.weight;
                    rooms[net] += room;
                    putFrom(i + 1, net == nets ? nets + 1 : nets);
                    weights[net] -= load.weight;
                    rooms[net] -= room;
                }
            }
        }
    }

    private static final class OrderSearch {
        /** THE LIST, kept by numbers, so that the first order of all is tried first. */
        final Place[] wanted = new Place[MOST_LISTED];
        final int[] tried = new int[MOST_LISTED];
        final int[] found = new int[MOST_LISTED];
        /** Of each set of places (a bit for each one in wanted): the least minute from which on the rest was tried. */
        final int[] earliest = new int[1 << MOST_LISTED];
        int size;
        int foundSize;
        int rest;
        int best;

        void want(Place goal) {
            if (size >= MOST_LISTED) {
                return;
            }
            int at = size;
            while (at > 0 && wanted[at - 1].number > goal.number) {
                wanted[at] = wanted[at - 1];
                at--;
            }
            wanted[at] = goal;
            size++;
        }

        /** FUEL and FLOWN do not hang on the order: where all flights together are within, each one is. */
        boolean canAfford(Machine machine, Pilot pilot) {
            int burnt = 0;
            int minutes = 0;
            for (int i = 0; i < size; i++) {
                burnt += 4 * wanted[i].way;
                minutes += wanted[i].minutesThereAndBack();
            }
            return burnt + SPARE_FUEL <= machine.fuel && pilot.flown + minutes <= pilot.most;
        }

        /** Whether there is one; it is in found then, its end in best, and THE LIST is empty. */
        boolean findOrder(RuleBook book, Weather weather, Pilot pilot, int ready) {
            rest = pilot.rest;
            best = LAST_MINUTE + 1;
            for (int i = 0; i < earliest.length; i++) {
                earliest[i] = NEVER;
            }
            extend(book, weather, 0, 0, ready, pilot.flown);
            if (best > LAST_MINUTE) {
                return false;
            }
            foundSize = size;
            size = 0;
            return true;
        }

        /** Tries each place that is left as the next one; depth is how many are taken, each a bit of taken. */
        private void extend(RuleBook book, Weather weather, int depth, int taken, int ready, int flown) {
            // where the same places were flown by then in an order ahead of this one, none found here can be better
            if (depth >= size || taken >= earliest.length || ready >= earliest[taken]) {
                return;
            }
            earliest[taken] = ready;
            for (int i = 0; i < size; i++) {
                if (isTaken(taken, i) || isSameAsUntaken(taken, i)) {
                    continue;
                }
                Place goal = wanted[i];
                int minutes = goal.minutesThereAndBack();
                int then = taken | 1 << i;
                tried[depth] = goal.number;
                book.setGoal(goal);
                book.setFlown(flown);
                // a later begin could not end ahead of the best order, even if no rule held up the rest
                int begin = book.firstMinute(weather, ready, best - 1 - minutes - leastMinutesLeft(then));
                if (begin >= 0 && depth == size - 1) {
                    best = begin + minutes;
                    System.arraycopy(tried, 0, found, 0, size);
                } else if (begin >= 0) {
                    extend(book, weather, depth + 1, then, begin + minutes + rest, flown + minutes);
                }
            }
        }

        private static boolean isTaken(int taken, int i) {
            return (taken >> i & 1) == 1;
        }

        /** The same place would only give the same orders again. */
        private boolean isSameAsUntaken(int taken, int i) {
            return i > 0 && !isTaken(taken, i - 1) && wanted[i - 1].number == wanted[i].number;
        }

        private int leastMinutesLeft(int taken) {
            int minutes = 0;
            for (int i = 0; i < size; i++) {
                minutes += isTaken(taken, i) ? 0 : rest + wanted[i].minutesThereAndBack();
            }
            return minutes;
        }
    }
}
