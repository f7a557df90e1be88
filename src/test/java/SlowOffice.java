import java.util.ArrayList;
import java.util.Arrays;
import java.util.List;

/**
 * The document once more, as slowly and plainly as can be: rules are read byte by byte each time, ORDER tries every
 * order minute by minute, PACK tries every parting, days go by one minute at a time. ModelTest compares it with HutLift.
 */
final class SlowOffice {
    static final int NONE = -1, FULL = -2, STATE = -3, WAITS = 0, HANGS = 1, FLIES = 2, SHELVED = 3;

    /** HEIGHT, WAY. */
    final List<int[]> places = new ArrayList<>();
    /** BASE, TANK, FUEL, FREE. */
    final List<int[]> machines = new ArrayList<>();
    /** MOST, REST, FLOWN, FREE. */
    final List<int[]> pilots = new ArrayList<>();
    /** KIND, PLACE, ROOM, WEIGHT, READY, DUE, STATE, MACHINE, FLIGHT, SHELVED, COST. */
    final List<int[]> loads = new ArrayList<>();
    /** As flight() tells it. */
    final List<int[]> flights = new ArrayList<>();
    final List<String> rules = new ArrayList<>();
    final int[][] hours = new int[12][];
    String tape = "";
    List<Integer> theList = new ArrayList<>();
    List<Integer> latest = new ArrayList<>();
    int now = 0;

    SlowOffice() {
        places.add(new int[] {0, 0});
        for (int i = 0; i < 12; i++) {
            hours[i] = new int[] {0, 0, 9};
        }
    }

    static boolean in(int v, int lo, int hi) {
        return lo <= v && v <= hi;
    }

    static <T> boolean has(List<T> list, int i) {
        return i >= 0 && i < list.size();
    }

    static int added(List<int[]> list, int most, int... row) {
        if (list.size() == most) {
            return FULL;
        }
        list.add(row);
        return list.size() - 1;
    }

    int place(int height, int way) {
        return in(height, 0, 9) && in(way, 1, 60) ? added(places, 12, height, way) : NONE;
    }

    int machine(int base, int tank) {
        return in(base, 1, 200) && in(tank, 1, 2000) ? added(machines, 4, base, tank, tank, 0) : NONE;
    }

    int pilot(int most, int rest) {
        return in(most, 0, 720) && in(rest, 0, 120) ? added(pilots, 6, most, rest, 0, 0) : NONE;
    }

    int load(int what, int weight, int ready, int due) {
        for (int kind = 0; kind <= 4; kind++) {
            for (int place = 1; place < places.size(); place++) {
                for (int room = 1; room <= 9; room++) {
                    if (what == 10000 * kind + 100 * place + room
                            && in(weight, 1, 99) && in(ready, 0, 720) && in(due, 0, 720)) {
                        return added(loads, 80, kind, place, room, weight, ready, due, WAITS, -1, -1, -1, 0);
                    }
                }
            }
        }
        return NONE;
    }

    int hour(int hour, int wind, int warmth, int sight) {
        if (!in(hour, 0, 11) || !in(wind, -1, 9) || !in(warmth, -1, 9) || !in(sight, -1, 9)) {
            return NONE;
        }
        hours[hour] = new int[] {wind == -1 ? 9 : wind, warmth == -1 ? 9 : warmth, sight == -1 ? 0 : sight};
        return 1;
    }

    int feed(int n, int v) {
        if (!in(n, 1, 4)) {
            return NONE;
        }
        if (tape.length() + n > 60) {
            return FULL;
        }
        for (int i = 0; i < n; i++) {
            tape += (char) ((v >> (8 * i)) & 255);
        }
        return tape.length();
    }

    int rule() {
        if (rules.size() == 10) {
            return FULL;
        }
        String text = tape;
        tape = "";
        int fault = fault(text);
        if (fault >= 0) {
            return -100 - fault;
        }
        rules.add(text);
        return rules.size() - 1;
    }

    static int fault(String text) {
        int lying = 0;
        int i = 0;
        while (i < text.length()) {
            char c = text.charAt(i);
            if (c >= '0' && c <= '9') {
                if (lying == 20) {
                    return i;
                }
                int from = i;
                while (i < text.length() && text.charAt(i) >= '0' && text.charAt(i) <= '9') {
                    if (i - from == 3) {
                        return i;
                    }
                    i++;
                }
                lying++;
                continue;
            }
            if ("wtshmpeklnf".contains("" + c)) {
                if (lying == 20) {
                    return i;
                }
                lying++;
            } else if ("+-*<=>&|".contains("" + c)) {
                if (lying < 2) {
                    return i;
                }
                lying--;
            } else if (c == '!') {
                if (lying < 1) {
                    return i;
                }
            } else if (c != ' ') {
                return i;
            }
            i++;
        }
        return lying == 1 ? -1 : text.length();
    }

    int drop() {
        if (rules.isEmpty()) {
            return STATE;
        }
        rules.remove(rules.size() - 1);
        return rules.size();
    }

    static int hourOf(int minute) {
        return minute >= 720 ? 11 : minute / 60;
    }

    List<Integer> hanging(int machine) {
        List<Integer> some = new ArrayList<>();
        for (int i = 0; i < loads.size(); i++) {
            if (loads.get(i)[6] == HANGS && loads.get(i)[7] == machine) {
                some.add(i);
            }
        }
        return some;
    }

    int sum(List<Integer> some, int column) {
        return some.stream().mapToInt(i -> loads.get(i)[column]).sum();
    }

    int worth(String text, List<Integer> hang, int minute, int place, int flown) {
        int[] weather = hours[hourOf(minute)];
        ArrayList<Integer> pile = new ArrayList<>();
        boolean open = false;
        for (char c : text.toCharArray()) {
            if (c >= '0' && c <= '9') {
                int digit = c - '0';
                pile.add(open ? pile.remove(pile.size() - 1) * 10 + digit : digit);
                open = true;
                continue;
            }
            open = false;
            if (c == 'w') pile.add(weather[0]);
            if (c == 't') pile.add(weather[1]);
            if (c == 's') pile.add(weather[2]);
            if (c == 'h') pile.add(hourOf(minute));
            if (c == 'm') pile.add(minute);
            if (c == 'p') pile.add(place);
            if (c == 'e') pile.add(places.get(place)[0]);
            if (c == 'k') pile.add(hang.stream().mapToInt(i -> loads.get(i)[0]).max().orElse(0));
            if (c == 'l') pile.add(sum(hang, 3));
            if (c == 'n') pile.add(hang.size());
            if (c == 'f') pile.add(flown);
            if (c == '!') pile.add(pile.remove(pile.size() - 1) == 0 ? 1 : 0);
            if ("+-*<=>&|".contains("" + c)) {
                int b = pile.remove(pile.size() - 1);
                int a = pile.remove(pile.size() - 1);
                if (c == '+') pile.add(a + b);
                if (c == '-') pile.add(a - b);
                if (c == '*') pile.add(a * b);
                if (c == '<') pile.add(a < b ? 1 : 0);
                if (c == '=') pile.add(a == b ? 1 : 0);
                if (c == '>') pile.add(a > b ? 1 : 0);
                if (c == '&') pile.add((a != 0) & (b != 0) ? 1 : 0);
                if (c == '|') pile.add((a != 0) | (b != 0) ? 1 : 0);
            }
        }
        return pile.get(0);
    }

    int brokenRule(List<Integer> hang, int minute, int place, int flown) {
        for (int i = 0; i < rules.size(); i++) {
            if (worth(rules.get(i), hang, minute, place, flown) == 0) {
                return i;
            }
        }
        return -1;
    }

    boolean noFlight(int machine, int pilot, int place) {
        return !has(machines, machine) || !has(pilots, pilot) || !has(places, place) || place == 0;
    }

    int says(int i, int machine, int pilot, int place) {
        if (!has(rules, i) || noFlight(machine, pilot, place)) {
            return -2000000000;
        }
        return worth(rules.get(i), hanging(machine), now, place, pilots.get(pilot)[2]);
    }

    static boolean alone(int[] load) {
        return load[0] == 1 || load[0] == 3;
    }

    int hang(int machine, int load) {
        if (!has(machines, machine) || !has(loads, load)) {
            return NONE;
        }
        int[] l = loads.get(load);
        if (machines.get(machine)[3] > now || l[6] != WAITS || l[4] > now || l[0] == 4) {
            return STATE;
        }
        List<Integer> hang = hanging(machine);
        for (int other : hang) {
            if (alone(loads.get(other)) || alone(l) || loads.get(other)[1] != l[1]) {
                return STATE;
            }
        }
        if (sum(hang, 2) + l[2] > 9) {
            return STATE;
        }
        l[6] = HANGS;
        l[7] = machine;
        return hang.size() + 1;
    }

    int off(int load) {
        if (!has(loads, load)) {
            return NONE;
        }
        int[] l = loads.get(load);
        if (l[6] != HANGS) {
            return STATE;
        }
        int machine = l[7];
        l[6] = WAITS;
        l[7] = -1;
        return hanging(machine).size();
    }

    int lift(int machine, int place, int hour) {
        if (!has(machines, machine) || !has(places, place) || !in(hour, 0, 11)) {
            return -9;
        }
        int lift = machines.get(machine)[0] - 4 * places.get(place)[0] - hours[hour][1];
        return lift < 0 ? 0 : lift;
    }

    int wayOf(int machine, int place) {
        int way = places.get(place)[1];
        return hanging(machine).stream().anyMatch(i -> loads.get(i)[0] == 1) ? way + way : way;
    }

    List<Integer> ridersOf(int machine, int place) {
        int set = now + wayOf(machine, place);
        List<Integer> riders = new ArrayList<>();
        for (int i = 0; i < loads.size(); i++) {
            int[] l = loads.get(i);
            if (l[0] == 4 && l[1] == place && l[6] == WAITS && l[4] <= set
                    && sum(riders, 3) + l[3] <= lift(machine, place, hourOf(set)) && sum(riders, 2) + l[2] <= 9) {
                riders.add(i);
            }
        }
        return riders;
    }

    int burnt(int machine, int place) {
        int way = wayOf(machine, place);
        return way * (2 + sum(hanging(machine), 3) / 20) + way * (2 + sum(ridersOf(machine, place), 3) / 20);
    }

    int may(int machine, int pilot, int place) {
        if (noFlight(machine, pilot, place)) {
            return NONE;
        }
        int[] m = machines.get(machine);
        int[] p = pilots.get(pilot);
        List<Integer> hang = hanging(machine);
        int set = now + wayOf(machine, place);
        int back = set + 2 + wayOf(machine, place);
        if (m[3] > now) return 1;
        if (p[3] > now) return 2;
        if (hang.stream().anyMatch(i -> loads.get(i)[1] != place)) return 3;
        if (back > 720) return 4;
        if (sum(hang, 3) > lift(machine, 0, hourOf(now)) || sum(hang, 3) > lift(machine, place, hourOf(set))) return 5;
        if (burnt(machine, place) + 10 > m[2]) return 6;
        if (p[2] + back - now > p[0]) return 7;
        if (hang.stream().anyMatch(i -> loads.get(i)[0] == 2 && set - loads.get(i)[4] > 90)) return 8;
        int broken = brokenRule(hang, now, place, p[2]);
        return broken < 0 ? 0 : 10 + broken;
    }

    int fly(int machine, int pilot, int place) {
        int why = may(machine, pilot, place);
        if (why == NONE) {
            return NONE;
        }
        if (why != 0) {
            return -10 - why;
        }
        if (flights.size() == 200) {
            return FULL;
        }
        int way = wayOf(machine, place);
        int back = now + way + 2 + way;
        List<Integer> hung = hanging(machine);
        List<Integer> riders = ridersOf(machine, place);
        int burnt = burnt(machine, place);
        flights.add(new int[] {machine, pilot, place, now, now + way, back, burnt, hung.size(), riders.size()});
        machines.get(machine)[2] -= burnt;
        machines.get(machine)[3] = back;
        pilots.get(pilot)[2] += back - now;
        pilots.get(pilot)[3] = back + pilots.get(pilot)[1];
        List<Integer> all = new ArrayList<>(hung);
        all.addAll(riders);
        all.sort(null);
        int left = back - now;
        for (int i : all) {
            loads.get(i)[6] = FLIES;
            loads.get(i)[7] = -1;
            loads.get(i)[8] = flights.size() - 1;
            loads.get(i)[10] = (back - now) * loads.get(i)[3] / sum(all, 3);
            left -= loads.get(i)[10];
        }
        if (!all.isEmpty()) {
            loads.get(all.get(0))[10] += left;
        }
        return flights.size() - 1;
    }

    int fuel(int machine) {
        if (!has(machines, machine)) {
            return NONE;
        }
        int[] m = machines.get(machine);
        if (m[3] > now) {
            return STATE;
        }
        int came = m[1] - m[2];
        m[2] = m[1];
        return came;
    }

    int minute(int n) {
        if (!in(n, 1, 120) || now + n > 720) {
            return NONE;
        }
        for (int i = 0; i < n; i++) {
            now++;
            for (int[] l : loads) {
                if (l[6] == FLIES && flights.get(l[8])[l[0] == 4 ? 5 : 4] == now) {
                    l[6] = SHELVED;
                    l[9] = now;
                }
            }
        }
        return now;
    }

    int about(int machine, int what) {
        if (!has(machines, machine) || !in(what, 0, 4)) {
            return -9;
        }
        List<Integer> hang = hanging(machine);
        int[] m = machines.get(machine);
        return new int[] {m[2], m[3], hang.size(), sum(hang, 3), lift(machine, 0, hourOf(now))}[what];
    }

    int pilotOf(int pilot, int what) {
        if (!has(pilots, pilot) || !in(what, 0, 2)) {
            return -9;
        }
        int[] p = pilots.get(pilot);
        return new int[] {p[2], p[3], p[0] - p[2]}[what];
    }

    static boolean late(int[] load) {
        return load[6] == SHELVED && load[9] > load[5];
    }

    int cargo(int load, int what) {
        if (!has(loads, load) || !in(what, 0, 5)) {
            return -9;
        }
        int[] l = loads.get(load);
        return new int[] {l[6], l[7], l[8], l[9], late(l) ? 1 : 0, l[10]}[what];
    }

    int flight(int i, int what) {
        return has(flights, i) && in(what, 0, 8) ? flights.get(i)[what] : -9;
    }

    int pack(int place, int lift) {
        if (!has(places, place) || place == 0 || !in(lift, 0, 400)) {
            return NONE;
        }
        List<int[]> some = new ArrayList<>();
        for (int[] l : loads) {
            if (l[1] == place && l[6] == WAITS && l[0] != 4) {
                some.add(l);
            }
        }
        if (some.size() > 9) {
            return FULL;
        }
        int[] fewest = new int[1 << some.size()];
        Arrays.fill(fewest, 99);
        fewest[0] = 0;
        for (int set = 1; set < fewest.length; set++) {
            for (int net = set; net > 0; net = (net - 1) & set) {
                if (isNet(some, net, lift)) {
                    fewest[set] = Math.min(fewest[set], 1 + fewest[set & ~net]);
                }
            }
        }
        int answer = fewest[fewest.length - 1];
        return answer >= 99 ? STATE : answer;
    }

    static boolean isNet(List<int[]> some, int net, int lift) {
        int weight = 0;
        int room = 0;
        boolean alone = false;
        for (int i = 0; i < some.size(); i++) {
            if ((net >> i & 1) == 1) {
                weight += some.get(i)[3];
                room += some.get(i)[2];
                alone |= alone(some.get(i));
            }
        }
        return weight <= lift && room <= 9 && (!alone || Integer.bitCount(net) == 1);
    }

    int list(int place) {
        if (!has(places, place) || place == 0) {
            return NONE;
        }
        if (theList.size() == 5) {
            return FULL;
        }
        theList.add(place);
        return theList.size();
    }

    int order(int machine, int pilot) {
        if (!has(machines, machine) || !has(pilots, pilot)) {
            return NONE;
        }
        if (theList.isEmpty() || !hanging(machine).isEmpty()) {
            return STATE;
        }
        List<Integer> best = null;
        int least = Integer.MAX_VALUE;
        for (List<Integer> some : orders(theList)) {
            int end = endOf(some, machines.get(machine), pilots.get(pilot));
            if (end >= 0 && (end < least || end == least && isAhead(some, best))) {
                least = end;
                best = some;
            }
        }
        if (best == null) {
            return STATE;
        }
        latest = best;
        theList = new ArrayList<>();
        return least;
    }

    static List<List<Integer>> orders(List<Integer> of) {
        List<List<Integer>> all = new ArrayList<>();
        if (of.isEmpty()) {
            all.add(new ArrayList<>());
        }
        for (int i = 0; i < of.size(); i++) {
            List<Integer> others = new ArrayList<>(of);
            int first = others.remove(i);
            for (List<Integer> tail : orders(others)) {
                tail.add(0, first);
                all.add(tail);
            }
        }
        return all;
    }

    static boolean isAhead(List<Integer> a, List<Integer> b) {
        for (int i = 0; i < a.size(); i++) {
            if (!a.get(i).equals(b.get(i))) {
                return a.get(i) < b.get(i);
            }
        }
        return false;
    }

    int endOf(List<Integer> some, int[] machine, int[] pilot) {
        int fuel = machine[2];
        int machineFree = machine[3];
        int flown = pilot[2];
        int pilotFree = pilot[3];
        int back = -1;
        for (int place : some) {
            int way = places.get(place)[1];
            int begin = -1;
            for (int at = now; at <= 720 && begin < 0; at++) {
                if (machineFree <= at && pilotFree <= at && at + way + 2 + way <= 720 && 4 * way + 10 <= fuel
                        && flown + 2 * way + 2 <= pilot[0] && brokenRule(new ArrayList<>(), at, place, flown) < 0) {
                    begin = at;
                }
            }
            if (begin < 0) {
                return -1;
            }
            back = begin + 2 * way + 2;
            machineFree = back;
            pilotFree = back + pilot[1];
            flown += 2 * way + 2;
            fuel -= 4 * way;
        }
        return back;
    }

    int ordered(int i) {
        return has(latest, i) ? latest.get(i) : NONE;
    }

    int count(int what) {
        int shelved = 0;
        int late = 0;
        for (int[] l : loads) {
            shelved += l[6] == SHELVED ? 1 : 0;
            late += late(l) ? 1 : 0;
        }
        int[] all = {places.size(), machines.size(), pilots.size(), loads.size(), rules.size(), flights.size(), now,
            shelved, late, tape.length()};
        return in(what, 0, 9) ? all[what] : NONE;
    }
}
