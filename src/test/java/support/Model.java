import java.util.ArrayDeque;
import java.util.ArrayList;
import java.util.Deque;
import java.util.List;
import java.util.regex.Matcher;
import java.util.regex.Pattern;

/**
 * The document once more, in the slowest and plainest way: the state is a tree of lists that is copied whole, a text
 * is what a pattern allows, and what the class works out in one go is tried here for every number in turn. Its
 * methods have the names of the class's, so that RandomRunsTest can call both by name.
 */
final class Model {
    private static final int NONE = -9;

    private static final class Zone {
        int length, first, last, slack;

        Zone(int length, int first, int last, int slack) {
            this.length = length;
            this.first = first;
            this.last = last;
            this.slack = slack;
        }

        int needs(int u) {
            return u + (int) Math.ceil(u * slack / 100.0 - 1e-9);
        }

        int most(int cable) {
            int u = 0;
            while (needs(u + 1) <= cable) {
                u++;
            }
            return u;
        }
    }

    private static final class Ship {
        int capacity, speed, waves, rate, aboard, left, laid;
        String where = "port";

        int whereNumber() {
            return List.of("port", "out", "waits", "front", "home").indexOf(where);
        }
    }

    private static final class State {
        List<Zone> zones = new ArrayList<>();
        List<Ship> ships = new ArrayList<>();
        List<Integer> weather = new ArrayList<>();
        int teams, spliceDays, depot, bought, day, front, here, reason, done;
        int[] rest;
        boolean needed;
        Integer team;
        int spliceLeft;
        int laid, slackUsed, sea, waiting, extensions, cableCosts;

        State copy() {
            State c = new State();
            for (Zone z : zones) {
                c.zones.add(new Zone(z.length, z.first, z.last, z.slack));
            }
            for (Ship s : ships) {
                Ship n = new Ship();
                n.capacity = s.capacity;
                n.speed = s.speed;
                n.waves = s.waves;
                n.rate = s.rate;
                n.aboard = s.aboard;
                n.left = s.left;
                n.laid = s.laid;
                n.where = s.where;
                c.ships.add(n);
            }
            c.weather.addAll(weather);
            c.teams = teams;
            c.spliceDays = spliceDays;
            c.depot = depot;
            c.bought = bought;
            c.day = day;
            c.front = front;
            c.here = here;
            c.reason = reason;
            c.done = done;
            c.rest = rest.clone();
            c.needed = needed;
            c.team = team;
            c.spliceLeft = spliceLeft;
            c.laid = laid;
            c.slackUsed = slackUsed;
            c.sea = sea;
            c.waiting = waiting;
            c.extensions = extensions;
            c.cableCosts = cableCosts;
            return c;
        }

        int wavesOf(int d) {
            return weather.get(d % weather.size());
        }

        boolean finished() {
            return front == zones.size();
        }

        int atFront() {
            for (int s = 0; s < ships.size(); s++) {
                if (ships.get(s).where.equals("front")) {
                    return s;
                }
            }
            return NONE;
        }

        int free() {
            int n = 0;
            for (int t = 0; t < teams; t++) {
                if (rest[t] == 0 && !Integer.valueOf(t).equals(team)) {
                    n++;
                }
            }
            return n;
        }

        int day() {
            boolean before = finished();
            // Part 1
            for (Ship s : ships) {
                if (s.where.equals("out") || s.where.equals("home")) {
                    s.left--;
                    if (s.left == 0) {
                        s.where = s.where.equals("out") ? "waits" : "port";
                    }
                }
            }
            List<Ship> paid = new ArrayList<>();
            for (Ship s : ships) {
                if (!s.where.equals("port")) {
                    paid.add(s);
                }
            }
            // Part 2
            if (atFront() == NONE && !before) {
                for (Ship s : ships) {
                    if (s.where.equals("waits")) {
                        s.where = "front";
                        needed = laid > 0;
                        break;
                    }
                }
            }
            int number = atFront();
            for (Ship s : ships) {
                if (s.where.equals("waits")) {
                    waiting += s.rate;
                }
            }
            // Part 3
            int laidNow = 0;
            Integer tired = null;
            if (number == NONE) {
                reason = before ? 0 : 6;
            } else {
                Ship ship = ships.get(number);
                Zone zone = zones.get(front);
                if (team != null) {
                    reason = 0;
                    spliceLeft--;
                    if (spliceLeft == 0) {
                        done++;
                        tired = team;
                        team = null;
                    }
                } else if (needed) {
                    reason = 5;
                    if (wavesOf(day) <= 3) {
                        for (int t = 0; t < teams; t++) {
                            if (rest[t] == 0) {
                                reason = 0;
                                needed = false;
                                spliceLeft = spliceDays - 1;
                                if (spliceLeft == 0) {
                                    done++;
                                    tired = t;
                                } else {
                                    team = t;
                                }
                                break;
                            }
                        }
                    }
                } else if (day < zone.first) {
                    reason = 1;
                } else if (day > zone.last) {
                    reason = 2;
                } else if (wavesOf(day) > ship.waves) {
                    reason = 3;
                } else {
                    int u = Math.min(Math.min(ship.speed, zone.length - here), zone.most(ship.aboard));
                    if (u == 0) {
                        reason = 4;
                        ship.where = "home";
                        ship.left = front + 1;
                    } else {
                        reason = 0;
                        laidNow = u;
                        ship.aboard -= zone.needs(u);
                        slackUsed += zone.needs(u) - u;
                        ship.laid += u;
                        laid += u;
                        here += u;
                        if (here == zone.length) {
                            here = 0;
                            front++;
                            if (finished()) {
                                ship.where = "home";
                                ship.left = zones.size();
                            }
                        }
                    }
                }
                if (List.of(1, 2, 3, 5).contains(reason)) {
                    waiting += ship.rate;
                }
            }
            // Part 4
            for (Ship s : paid) {
                sea += s.rate;
            }
            // Part 5
            for (int t = 0; t < teams; t++) {
                rest[t] = Math.max(0, rest[t] - 1);
            }
            if (tired != null) {
                rest[tired] = 2;
            }
            day++;
            return laidNow;
        }

        int days(int m) {
            int sum = 0;
            for (int i = 0; i < m; i++) {
                sum += day();
            }
            return sum;
        }
    }

    private String text = "";
    private State state;
    private Deque<State> history = new ArrayDeque<>();
    private State[] slots = new State[2];

    Model() {
        state = parse("C120200z5000995s10010520w3");
    }

    // ---- text

    private static final Pattern TEXT = pattern();

    private static Pattern pattern() {
        StringBuilder permit = new StringBuilder();
        for (int first = 0; first <= 99; first++) {
            permit.append(first == 0 ? "(?:" : "|").append(String.format("%02d(?:", first));
            for (int last = first; last <= 99; last++) {
                permit.append(last == first ? "" : "|").append(String.format("%02d", last));
            }
            permit.append(")");
        }
        permit.append(")");
        String zone = "z(?:0[1-9]|[1-9][0-9])" + permit + "[0-9]";
        String ship = "s(?:0[1-9][0-9]|[1-9][0-9][0-9])(?:0[1-9]|1[0-9]|20)[1-9](?:0[1-9]|[1-9][0-9])";
        return Pattern.compile("C[1-3][1-3][0-9]{4}(?:" + zone + "){1,9}(?:" + ship + "){1,4}w[0-9]{1,30}");
    }

    private static State parse(String text) {
        State s = new State();
        s.teams = text.charAt(1) - '0';
        s.rest = new int[s.teams];
        s.spliceDays = text.charAt(2) - '0';
        s.depot = Integer.parseInt(text.substring(3, 7));
        s.bought = s.depot;
        Matcher zones = Pattern.compile("z(..)(..)(..)(.)").matcher(text);
        while (zones.find()) {
            s.zones.add(new Zone(Integer.parseInt(zones.group(1)), Integer.parseInt(zones.group(2)),
                    Integer.parseInt(zones.group(3)), Integer.parseInt(zones.group(4))));
        }
        Matcher ships = Pattern.compile("s(...)(..)(.)(..)").matcher(text);
        while (ships.find()) {
            Ship ship = new Ship();
            ship.capacity = Integer.parseInt(ships.group(1));
            ship.speed = Integer.parseInt(ships.group(2));
            ship.waves = Integer.parseInt(ships.group(3));
            ship.rate = Integer.parseInt(ships.group(4));
            s.ships.add(ship);
        }
        for (char c : text.substring(text.indexOf('w') + 1).toCharArray()) {
            s.weather.add(c - '0');
        }
        return s;
    }

    int append(int c) {
        range(c, 0, 255);
        allow(text.length() < 160);
        text += (char) c;
        return text.length();
    }

    int clearText() {
        int length = text.length();
        text = "";
        return length;
    }

    int errorPosition() {
        if (TEXT.matcher(text).matches()) {
            return NONE;
        }
        for (int i = 1; i <= text.length(); i++) {
            Matcher begun = TEXT.matcher(text.substring(0, i));
            if (!begun.matches() && !begun.hitEnd()) {
                return i - 1;
            }
        }
        return text.length();
    }

    int load() {
        allow(errorPosition() == NONE);
        state = parse(text);
        history.clear();
        slots = new State[2];
        return state.zones.size();
    }

    // ---- what there is

    int about(int what) {
        range(what, 0, 13);
        int stage = state.needed ? 1 : state.team != null ? 2 : 0;
        return new int[] {state.zones.size(), state.ships.size(), state.teams, state.spliceDays, state.depot, state.day,
            state.front, state.here, state.atFront(), state.reason, stage, state.team != null ? state.spliceLeft : 0,
            state.done, state.free()}[what];
    }

    int zone(int z, int what) {
        Zone zone = zoneOf(state, z);
        range(what, 0, 4);
        int laid = z < state.front ? zone.length : z == state.front ? state.here : 0;
        return new int[] {zone.length, zone.first, zone.last, zone.slack, zone.length - laid}[what];
    }

    int ship(int s, int what) {
        Ship ship = shipOf(state, s);
        range(what, 0, 7);
        return new int[] {ship.capacity, ship.speed, ship.waves, ship.rate, ship.aboard, ship.whereNumber(),
            ship.where.equals("out") || ship.where.equals("home") ? ship.left : 0, ship.laid}[what];
    }

    int waves(int day) {
        range(day, 0, 9999);
        return state.wavesOf(day);
    }

    int account(int what) {
        range(what, 0, 7);
        int aboard = state.ships.stream().mapToInt(s -> s.aboard).sum();
        return new int[] {state.bought, state.laid, state.slackUsed, aboard, state.sea, state.waiting, state.extensions,
            state.cableCosts}[what];
    }

    // ---- actions, each on a copy that becomes the state

    private void act(State next) {
        history.addLast(state);
        if (history.size() > 14) {
            history.removeFirst();
        }
        state = next;
    }

    private static int takeIn(State t, int s, int units) {
        Ship ship = shipOf(t, s);
        range(units, 1, 999);
        allow(ship.where.equals("port") && t.depot >= units && ship.capacity - ship.aboard >= units);
        t.depot -= units;
        ship.aboard += units;
        return ship.aboard;
    }

    private static int sendIn(State t, int s) {
        Ship ship = shipOf(t, s);
        allow(ship.where.equals("port") && !t.finished());
        ship.where = "out";
        ship.left = t.front + 1;
        return ship.left;
    }

    private static int recallIn(State t, int s) {
        Ship ship = shipOf(t, s);
        allow(ship.where.equals("waits") || ship.where.equals("front"));
        if (ship.where.equals("front")) {
            t.needed = false;
            if (t.team != null) {
                t.rest[t.team] = 2;
                t.team = null;
            }
        }
        ship.where = "home";
        ship.left = t.finished() ? t.zones.size() : t.front + 1;
        return ship.left;
    }

    private static int extendIn(State t, int z, int days) {
        Zone zone = zoneOf(t, z);
        range(days, 1, 99);
        allow(zone.last + days <= 999);
        zone.last += days;
        t.extensions += 50 * days;
        return zone.last;
    }

    private static int buyIn(State t, int units) {
        range(units, 1, 999);
        allow(t.depot + units <= 9999);
        t.depot += units;
        t.bought += units;
        t.cableCosts += 3 * units;
        return t.depot;
    }

    int take(int s, int units) {
        State t = state.copy();
        int answer = takeIn(t, s, units);
        act(t);
        return answer;
    }

    int send(int s) {
        State t = state.copy();
        int answer = sendIn(t, s);
        act(t);
        return answer;
    }

    int recall(int s) {
        State t = state.copy();
        int answer = recallIn(t, s);
        act(t);
        return answer;
    }

    int extend(int z, int days) {
        State t = state.copy();
        int answer = extendIn(t, z, days);
        act(t);
        return answer;
    }

    int buy(int units) {
        State t = state.copy();
        int answer = buyIn(t, units);
        act(t);
        return answer;
    }

    int setWaves(int i, int waves) {
        range(i, 0, state.weather.size() - 1);
        range(waves, 0, 9);
        State t = state.copy();
        int answer = t.weather.set(i, waves);
        act(t);
        return answer;
    }

    int pass(int m) {
        range(m, 1, 99);
        State t = state.copy();
        int answer = t.days(m);
        act(t);
        return answer;
    }

    int undo() {
        allow(!history.isEmpty());
        state = history.removeLast();
        return history.size();
    }

    // ---- cable, forecasts

    int needs(int z, int units) {
        Zone zone = zoneOf(state, z);
        range(units, 0, 99);
        return zone.needs(units);
    }

    int reach(int s, int z) {
        Ship ship = shipOf(state, s);
        Zone zone = zoneOf(state, z);
        return Math.min(zone.length, zone.most(ship.aboard));
    }

    int calmDays(int s, int z) {
        Ship ship = shipOf(state, s);
        Zone zone = zoneOf(state, z);
        int n = 0;
        for (int day = zone.first; day <= zone.last; day++) {
            if (day >= state.day && state.wavesOf(day) <= ship.waves) {
                n++;
            }
        }
        return n;
    }

    int ahead(int m, int what) {
        range(m, 0, 99);
        range(what, 0, 4);
        State t = state.copy();
        int laid = t.days(m);
        return new int[] {laid, t.front, t.sea - state.sea, t.waiting - state.waiting, t.reason}[what];
    }

    private static int doneAfterIn(State from, int z) {
        State t = from.copy();
        for (int days = 0; days <= 400; days++) {
            if (t.front > z) {
                return days;
            }
            t.day();
        }
        return NONE;
    }

    int doneAfter(int z) {
        zoneOf(state, z);
        return doneAfterIn(state, z);
    }

    private static void fillAndSend(State t, int s) {
        Ship ship = t.ships.get(s);
        int units = Math.min(t.depot, ship.capacity - ship.aboard);
        t.depot -= units;
        ship.aboard += units;
        sendIn(t, s);
    }

    int bestShip() {
        int best = NONE;
        long bestWorth = 0;
        for (int s = 0; s < state.ships.size(); s++) {
            if (state.ships.get(s).where.equals("port") && !state.finished()) {
                State t = state.copy();
                fillAndSend(t, s);
                long laid = t.days(60);
                long worth = laid * 1_000_000 - (t.sea - state.sea);
                if (best == NONE || worth > bestWorth) {
                    best = s;
                    bestWorth = worth;
                }
            }
        }
        return best;
    }

    int extension(int z) {
        zoneOf(state, z);
        for (int days = 0; days <= 99; days++) {
            State t = state.copy();
            t.zones.get(z).last += days;
            if (t.zones.get(z).last <= 999 && doneAfterIn(t, z) != NONE) {
                return days;
            }
        }
        return NONE;
    }

    // ---- scripts, simulations

    int runScript(int n, long script) {
        range(n, 1, 3);
        allowArgument(script >= 0 && Long.toString(script).length() <= 5 * n);
        String digits = String.format("%0" + 5 * n + "d", script);
        State t = state.copy();
        for (int i = 0; i < n; i++) {
            if (!command(t, digits.substring(5 * i, 5 * i + 5))) {
                return i;
            }
        }
        return NONE;
    }

    private static boolean command(State t, String c) {
        int second = c.charAt(1) - '0';
        int xy = Integer.parseInt(c.substring(3));
        int xyz = Integer.parseInt(c.substring(2));
        int fifth = c.charAt(4) - '0';
        try {
            if (c.matches("1....")) {
                takeIn(t, second, xyz);
            } else if (c.matches("2.000")) {
                sendIn(t, second);
            } else if (c.matches("3.000")) {
                recallIn(t, second);
            } else if (c.matches("4.0..")) {
                extendIn(t, second, xy);
            } else if (c.matches("500..")) {
                range(xy, 1, 99);
                t.days(xy);
            } else if (c.matches("60...")) {
                buyIn(t, xyz);
            } else if (c.matches("7.0..")) {
                return t.front == second && t.here == xy;
            } else if (c.matches("8.00.")) {
                return shipOf(t, second).whereNumber() == fifth;
            } else if (c.matches("9000.")) {
                return t.reason == fifth;
            } else {
                return false;
            }
            return true;
        } catch (IndexOutOfBoundsException | IllegalArgumentException | IllegalStateException e) {
            return false;
        }
    }

    int simulate(long seed, int m) {
        range(m, 1, 99);
        State t = state.copy();
        long x = seed;
        int laid = 0;
        for (int i = 0; i < m; i++) {
            x = x * 6364136223846793005L + 1442695040888963407L;
            int r = (int) (x >>> 33);
            int s = r / 8 % t.ships.size();
            if (r % 8 == 0) {
                t.weather.set(r / 64 % t.weather.size(), r / 2048 % 10);
            } else if (r % 8 == 1 || r % 8 == 2) {
                if (t.ships.get(s).where.equals("port") && !t.finished()) {
                    fillAndSend(t, s);
                }
            }
            laid += t.day();
        }
        return 1000 * laid + t.day;
    }

    // ---- save slots

    int save(int slot) {
        index(slot, 2);
        slots[slot] = state.copy();
        return state.day;
    }

    int restore(int slot) {
        index(slot, 2);
        allow(slots[slot] != null);
        state = slots[slot].copy();
        history.clear();
        return state.day;
    }

    // ---- exceptions

    private static void index(int i, int bound) {
        if (i < 0 || i >= bound) {
            throw new IndexOutOfBoundsException();
        }
    }

    private static Zone zoneOf(State t, int z) {
        index(z, t.zones.size());
        return t.zones.get(z);
    }

    private static Ship shipOf(State t, int s) {
        index(s, t.ships.size());
        return t.ships.get(s);
    }

    private static void range(int number, int least, int most) {
        allowArgument(number >= least && number <= most);
    }

    private static void allowArgument(boolean allowed) {
        if (!allowed) {
            throw new IllegalArgumentException();
        }
    }

    private static void allow(boolean allowed) {
        if (!allowed) {
            throw new IllegalStateException();
        }
    }
}
