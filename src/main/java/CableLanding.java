/** The laying of a sea cable; what each call promises stands in the project's document. */
public final class CableLanding {
    public static final int NONE = -9;

    private static final int MOST_UNITS_AT_ONCE = 999;
    private static final int MOST_DAYS_AT_ONCE = 99;
    private static final int FORECAST_DAYS = 400;
    private static final int BEST_SHIP_DAYS = 60;
    private static final int SLOTS = 2;

    private final Text text;
    private final State now;
    /** Whatever must not change the present state happens in this copy, which is made once and used again. */
    private final State trial;
    private final History history;
    private final Slot[] slots;

    public CableLanding() {
        text = new Text();
        now = new State();
        trial = new State();
        history = new History();
        slots = new Slot[SLOTS];
        for (int i = 0; i < slots.length; i++) {
            slots[i] = new Slot();
        }
        now.begin(1, 2, 200);
        now.addZone(50, 0, 99, 5);
        now.addShip(100, 10, 5, 20);
        now.weather.add(3);
    }

    // ---- text

    public int append(int c) throws IllegalArgumentException, IllegalStateException {
        requireRange(c, 0, 255);
        require(text.hasRoom());
        return text.add((char) c);
    }

    public int clearText() {
        return text.clear();
    }

    public int errorPosition() {
        return text.readInto(trial);
    }

    public int load() throws IllegalStateException {
        require(text.readInto(trial) == NONE);
        now.copyFrom(trial);
        history.clear();
        for (Slot slot : slots) {
            slot.filled = false;
        }
        return now.zoneCount;
    }

    // ---- what there is

    public int about(int what) throws IllegalArgumentException {
        Teams teams = now.teams;
        switch (what) {
            case 0: return now.zoneCount;
            case 1: return now.shipCount;
            case 2: return teams.count;
            case 3: return teams.spliceDays;
            case 4: return now.depot;
            case 5: return now.day;
            case 6: return now.front;
            case 7: return now.laidHere;
            case 8: return now.numberAtFront();
            case 9: return now.reason;
            case 10: return teams.stageOfSplice();
            case 11: return teams.daysLeft;
            case 12: return teams.splicesDone;
            case 13: return teams.freeTeams();
            default: throw new IllegalArgumentException("no such number");
        }
    }

    public int zone(int z, int what) throws IndexOutOfBoundsException, IllegalArgumentException {
        Zone zone = existingZone(now, z);
        switch (what) {
            case 0: return zone.length;
            case 1: return zone.first;
            case 2: return zone.last;
            case 3: return zone.slack;
            case 4: return now.leftIn(zone, z);
            default: throw new IllegalArgumentException("no such number of a zone");
        }
    }

    public int ship(int s, int what) throws IndexOutOfBoundsException, IllegalArgumentException {
        Ship ship = existingShip(s);
        switch (what) {
            case 0: return ship.capacity;
            case 1: return ship.speed;
            case 2: return ship.greatestWaves;
            case 3: return ship.rate;
            case 4: return ship.aboard;
            case 5: return ship.where;
            case 6: return ship.daysLeft;
            case 7: return ship.laid;
            default: throw new IllegalArgumentException("no such number of a ship");
        }
    }

    public int waves(int day) throws IllegalArgumentException {
        requireRange(day, 0, 9999);
        return now.weather.on(day);
    }

    public int account(int what) throws IllegalArgumentException {
        Ledger ledger = now.ledger;
        switch (what) {
            case 0: return ledger.cable;
            case 1: return ledger.laid;
            case 2: return ledger.slackUsed;
            case 3: return now.aboardOfAll();
            case 4: return ledger.seaCosts;
            case 5: return ledger.waitingCosts;
            case 6: return ledger.extensionCosts;
            case 7: return ledger.cableCosts;
            default: throw new IllegalArgumentException("no such account");
        }
    }

    // ---- actions

    public int take(int s, int units) throws IndexOutOfBoundsException, IllegalArgumentException, IllegalStateException {
        Ship ship = existingShip(s);
        requireRange(units, 1, MOST_UNITS_AT_ONCE);
        require(now.canLoadOnto(ship, units));
        history.remember(now);
        now.loadOnto(ship, units);
        return ship.aboard;
    }

    public int send(int s) throws IndexOutOfBoundsException, IllegalStateException {
        Ship ship = existingShip(s);
        require(now.canSendOut(ship));
        history.remember(now);
        now.sendOut(ship);
        return ship.daysLeft;
    }

    public int recall(int s) throws IndexOutOfBoundsException, IllegalStateException {
        Ship ship = existingShip(s);
        require(now.canCallHome(ship));
        history.remember(now);
        now.callHome(ship);
        return ship.daysLeft;
    }

    public int extend(int z, int days) throws IndexOutOfBoundsException, IllegalArgumentException, IllegalStateException {
        Zone zone = existingZone(now, z);
        requireRange(days, 1, MOST_DAYS_AT_ONCE);
        require(now.canProlong(zone, days));
        history.remember(now);
        now.prolong(zone, days);
        return zone.last;
    }

    public int buy(int units) throws IllegalArgumentException, IllegalStateException {
        requireRange(units, 1, MOST_UNITS_AT_ONCE);
        require(now.canPurchase(units));
        history.remember(now);
        now.purchase(units);
        return now.depot;
    }

    public int setWaves(int i, int waves) throws IllegalArgumentException {
        requireRange(i, 0, now.weather.count - 1);
        requireRange(waves, 0, 9);
        history.remember(now);
        return now.weather.change(i, waves);
    }

    public int pass(int m) throws IllegalArgumentException {
        requireRange(m, 1, MOST_DAYS_AT_ONCE);
        history.remember(now);
        int laidBefore = now.ledger.laid;
        now.passDays(m);
        return now.ledger.laid - laidBefore;
    }

    public int undo() throws IllegalStateException {
        require(history.count > 0);
        return history.takeBack(now);
    }

    // ---- cable; these and all following methods up to the save slots change nothing

    public int needs(int z, int units) throws IndexOutOfBoundsException, IllegalArgumentException {
        Zone zone = existingZone(now, z);
        requireRange(units, 0, 99);
        return zone.cableFor(units);
    }

    public int reach(int s, int z) throws IndexOutOfBoundsException {
        Ship ship = existingShip(s);
        Zone zone = existingZone(now, z);
        return zone.mostUnits(zone.length, ship.aboard);
    }

    public int calmDays(int s, int z) throws IndexOutOfBoundsException {
        Ship ship = existingShip(s);
        Zone zone = existingZone(now, z);
        int calm = 0;
        for (int day = Math.max(now.day, zone.first); day <= zone.last; day++) {
            if (now.weather.on(day) <= ship.greatestWaves) {
                calm++;
            }
        }
        return calm;
    }

    // ---- forecasts

    public int ahead(int m, int what) throws IllegalArgumentException {
        requireRange(m, 0, MOST_DAYS_AT_ONCE);
        requireRange(what, 0, 4);
        trial.copyFrom(now);
        trial.passDays(m);
        switch (what) {
            case 0: return trial.ledger.laid - now.ledger.laid;
            case 1: return trial.front;
            case 2: return trial.ledger.seaCosts - now.ledger.seaCosts;
            case 3: return trial.ledger.waitingCosts - now.ledger.waitingCosts;
            default: return trial.reason;
        }
    }

    public int doneAfter(int z) throws IndexOutOfBoundsException {
        existingZone(now, z);
        trial.copyFrom(now);
        return trial.daysUntilDone(z);
    }

    public int bestShip() {
        int best = NONE;
        int mostLaid = 0;
        int leastCosts = 0;
        for (int s = 0; s < now.shipCount; s++) {
            trial.copyFrom(now);
            if (trial.fillAndSend(s)) {
                trial.passDays(BEST_SHIP_DAYS);
                int laid = trial.ledger.laid;
                int costs = trial.ledger.seaCosts;
                if (best == NONE || laid > mostLaid || laid == mostLaid && costs < leastCosts) {
                    best = s;
                    mostLaid = laid;
                    leastCosts = costs;
                }
            }
        }
        return best;
    }

    /**
     * One forecast, with the longest extension, tells the answer for all: a shorter one makes no difference up to its
     * own last day, and after that day nothing is laid in the zone. So what is needed reaches to the day that ends it.
     */
    public int extension(int z) throws IndexOutOfBoundsException {
        trial.copyFrom(now);
        Zone zone = existingZone(trial, z);
        int last = zone.last;
        zone.last = Math.min(last + MOST_DAYS_AT_ONCE, Zone.LATEST_DAY);
        int days = trial.daysUntilDone(z);
        if (days == NONE) {
            return NONE;
        }
        return days == 0 ? 0 : Math.max(0, trial.day - 1 - last);
    }

    // ---- scripts, simulations

    public int runScript(int n, long script) throws IllegalArgumentException {
        requireRange(n, 1, 3);
        if (script < 0 || Script.withoutLast(script, n) > 0) {
            throw new IllegalArgumentException("the script has other digits");
        }
        trial.copyFrom(now);
        for (int i = 0; i < n; i++) {
            int group = (int) (Script.withoutLast(script, n - 1 - i) % Script.GROUP);
            if (!Script.succeeds(trial, group)) {
                return i;
            }
        }
        return NONE;
    }

    public int simulate(long seed, int m) throws IllegalArgumentException {
        requireRange(m, 1, 99);
        trial.copyFrom(now);
        long x = seed;
        for (int round = 0; round < m; round++) {
            x = x * 6364136223846793005L + 1442695040888963407L;
            trial.playRound((int) (x >>> 33));
        }
        return 1000 * (trial.ledger.laid - now.ledger.laid) + trial.day;
    }

    // ---- save slots

    public int save(int slot) throws IndexOutOfBoundsException {
        Slot place = existingSlot(slot);
        place.state.copyFrom(now);
        place.filled = true;
        return now.day;
    }

    public int restore(int slot) throws IndexOutOfBoundsException, IllegalStateException {
        Slot place = existingSlot(slot);
        require(place.filled);
        now.copyFrom(place.state);
        history.clear();
        return now.day;
    }

    // ---- what a call asks for

    private static void requireRange(int number, int least, int most) {
        if (number < least || number > most) {
            throw new IllegalArgumentException("out of range");
        }
    }

    private static void require(boolean allowed) {
        if (!allowed) {
            throw new IllegalStateException("not allowed now");
        }
    }

    private static Zone existingZone(State state, int z) {
        Zone zone = state.zoneNumbered(z);
        if (zone == null) {
            throw new IndexOutOfBoundsException("no such zone");
        }
        return zone;
    }

    private Ship existingShip(int s) {
        Ship ship = now.shipNumbered(s);
        if (ship == null) {
            throw new IndexOutOfBoundsException("no such ship");
        }
        return ship;
    }

    private Slot existingSlot(int slot) {
        if (slot < 0 || slot >= slots.length) {
            throw new IndexOutOfBoundsException("no such save slot");
        }
        return slots[slot];
    }

    private static final class Zone {
        static final int LATEST_DAY = 999;

        int length;
        int first;
        int last;
        int slack;

        void copyFrom(Zone other) {
            length = other.length;
            first = other.first;
            last = other.last;
            slack = other.slack;
        }

        int cableFor(int units) {
            return units + (units * slack + 99) / 100;
        }

        /** Without a loop: units and cable are whole, so the slack rounded up fits in just when it does unrounded. */
        int mostUnits(int limit, int cable) {
            int cableOfHundred = 100 + slack;
            return cableOfHundred > 0 ? Math.min(limit, 100 * cable / cableOfHundred) : 0;
        }
    }

    private static final class Ship {
        static final int IN_PORT = 0;
        static final int SAILS_OUT = 1;
        static final int WAITS = 2;
        static final int AT_FRONT = 3;
        static final int SAILS_HOME = 4;

        int capacity;
        int speed;
        int greatestWaves;
        int rate;
        int aboard;
        int where;
        int daysLeft;
        int laid;

        void build(int itsCapacity, int itsSpeed, int itsWaves, int itsRate) {
            capacity = itsCapacity;
            speed = itsSpeed;
            greatestWaves = itsWaves;
            rate = itsRate;
            aboard = 0;
            where = IN_PORT;
            daysLeft = 0;
            laid = 0;
        }

        void copyFrom(Ship other) {
            capacity = other.capacity;
            speed = other.speed;
            greatestWaves = other.greatestWaves;
            rate = other.rate;
            aboard = other.aboard;
            where = other.where;
            daysLeft = other.daysLeft;
            laid = other.laid;
        }

        void sail(int course, int days) {
            where = course;
            daysLeft = days;
        }

        void sailOneDay() {
            if (where == SAILS_OUT || where == SAILS_HOME) {
                daysLeft--;
                if (daysLeft == 0) {
                    where = where == SAILS_OUT ? WAITS : IN_PORT;
                }
            }
        }
    }

    /** The splicing teams, and the splice at the front: there is at most one, as at most one ship is there. */
    private static final class Teams {
        static final int MOST = 3;
        static final int REST_DAYS = 2;
        static final int CALM_WAVES = 3;

        int count;
        int spliceDays;
        final int[] rest = new int[MOST];
        boolean needed;
        int atWork = NONE;
        int daysLeft;
        int splicesDone;

        void begin(int itsCount, int itsSpliceDays) {
            count = itsCount;
            spliceDays = itsSpliceDays;
            for (int i = 0; i < rest.length; i++) {
                rest[i] = 0;
            }
            needed = false;
            atWork = NONE;
            daysLeft = 0;
            splicesDone = 0;
        }

        void copyFrom(Teams other) {
            count = other.count;
            spliceDays = other.spliceDays;
            for (int i = 0; i < rest.length && i < other.rest.length; i++) {
                rest[i] = other.rest[i];
            }
            needed = other.needed;
            atWork = other.atWork;
            daysLeft = other.daysLeft;
            splicesDone = other.splicesDone;
        }

        boolean spliceGoesOn() {
            return atWork != NONE;
        }

        int stageOfSplice() {
            if (needed) {
                return 1;
            }
            return spliceGoesOn() ? 2 : 0;
        }

        boolean isFree(int team) {
            return team >= 0 && team < count && team < rest.length && team != atWork && rest[team] == 0;
        }

        int freeTeams() {
            int free = 0;
            for (int i = 0; i < rest.length; i++) {
                if (isFree(i)) {
                    free++;
                }
            }
            return free;
        }

        /** The day on which it begins is the first one of its days, and is worked on like the others. */
        boolean beginSplice(int waves) {
            for (int i = 0; i < rest.length && waves <= CALM_WAVES; i++) {
                if (isFree(i)) {
                    needed = false;
                    atWork = i;
                    daysLeft = spliceDays;
                    return true;
                }
            }
            return false;
        }

        void workOnSplice() {
            daysLeft--;
            if (daysLeft <= 0) {
                splicesDone++;
                // One more, for the day that ends the splice takes a day off every rest, but not off this one.
                sendToRest(REST_DAYS + 1);
            }
        }

        void leaveFront() {
            needed = false;
            sendToRest(REST_DAYS);
        }

        private void sendToRest(int days) {
            if (atWork >= 0 && atWork < rest.length) {
                rest[atWork] = days;
            }
            atWork = NONE;
            daysLeft = 0;
        }

        void restOneDay() {
            for (int i = 0; i < rest.length; i++) {
                if (rest[i] > 0) {
                    rest[i]--;
                }
            }
        }
    }

    private static final class Weather {
        static final int MOST = 30;

        int count;
        final int[] row = new int[MOST];

        void copyFrom(Weather other) {
            count = other.count;
            for (int i = 0; i < row.length && i < other.row.length; i++) {
                row[i] = other.row[i];
            }
        }

        void add(int waves) {
            if (count >= 0 && count < row.length) {
                row[count] = waves;
                count++;
            }
        }

        int on(int day) {
            if (day < 0 || count <= 0) {
                return 0;
            }
            int i = day % count;
            return i < row.length ? row[i] : 0;
        }

        int change(int i, int waves) {
            if (i < 0 || i >= count || i >= row.length) {
                return NONE;
            }
            int previous = row[i];
            row[i] = waves;
            return previous;
        }
    }

    private static final class Ledger {
        int cable;
        int laid;
        int slackUsed;
        int seaCosts;
        int waitingCosts;
        int extensionCosts;
        int cableCosts;

        void begin(int itsCable) {
            cable = itsCable;
            laid = 0;
            slackUsed = 0;
            seaCosts = 0;
            waitingCosts = 0;
            extensionCosts = 0;
            cableCosts = 0;
        }

        void copyFrom(Ledger other) {
            cable = other.cable;
            laid = other.laid;
            slackUsed = other.slackUsed;
            seaCosts = other.seaCosts;
            waitingCosts = other.waitingCosts;
            extensionCosts = other.extensionCosts;
            cableCosts = other.cableCosts;
        }
    }

    /**
     * All that undo takes back and that save keeps. Ships that the route does not have stand behind the others in
     * port and empty, so that a loop over all of them books nothing for them.
     */
    private static final class State {
        static final int MOST_ZONES = 9;
        static final int MOST_SHIPS = 4;
        static final int MOST_DEPOT = 9999;
        static final int UNIT_PRICE = 3;
        static final int PERMIT_DAY_PRICE = 50;

        static final int NOTHING_WRONG = 0;
        static final int BEFORE_PERMIT = 1;
        static final int AFTER_PERMIT = 2;
        static final int ROUGH_SEA = 3;
        static final int NO_CABLE = 4;
        static final int NO_SPLICE = 5;
        static final int NO_SHIP = 6;

        final Zone[] zones = new Zone[MOST_ZONES];
        final Ship[] ships = new Ship[MOST_SHIPS];
        final Weather weather = new Weather();
        final Teams teams = new Teams();
        final Ledger ledger = new Ledger();
        int zoneCount;
        int shipCount;
        int depot;
        int day;
        int front;
        int laidHere;
        int reason;

        State() {
            for (int z = 0; z < zones.length; z++) {
                zones[z] = new Zone();
            }
            for (int s = 0; s < ships.length; s++) {
                ships[s] = new Ship();
            }
        }

        void begin(int teamCount, int spliceDays, int itsDepot) {
            zoneCount = 0;
            shipCount = 0;
            for (Ship ship : ships) {
                ship.build(0, 0, 0, 0);
            }
            weather.count = 0;
            teams.begin(teamCount, spliceDays);
            ledger.begin(itsDepot);
            depot = itsDepot;
            day = 0;
            front = 0;
            laidHere = 0;
            reason = NOTHING_WRONG;
        }

        void addZone(int length, int first, int last, int slack) {
            if (zoneCount >= 0 && zoneCount < zones.length) {
                Zone zone = zones[zoneCount];
                zone.length = length;
                zone.first = first;
                zone.last = last;
                zone.slack = slack;
                zoneCount++;
            }
        }

        void addShip(int capacity, int speed, int waves, int rate) {
            if (shipCount >= 0 && shipCount < ships.length) {
                ships[shipCount].build(capacity, speed, waves, rate);
                shipCount++;
            }
        }

        void copyFrom(State other) {
            for (int z = 0; z < zones.length && z < other.zones.length; z++) {
                zones[z].copyFrom(other.zones[z]);
            }
            for (int s = 0; s < ships.length && s < other.ships.length; s++) {
                ships[s].copyFrom(other.ships[s]);
            }
            weather.copyFrom(other.weather);
            teams.copyFrom(other.teams);
            ledger.copyFrom(other.ledger);
            zoneCount = other.zoneCount;
            shipCount = other.shipCount;
            depot = other.depot;
            day = other.day;
            front = other.front;
            laidHere = other.laidHere;
            reason = other.reason;
        }

        Zone zoneNumbered(int z) {
            return z >= 0 && z < zoneCount && z < zones.length ? zones[z] : null;
        }

        Ship shipNumbered(int s) {
            return s >= 0 && s < shipCount && s < ships.length ? ships[s] : null;
        }

        boolean isFinished() {
            return front >= zoneCount;
        }

        int numberAtFront() {
            for (int s = 0; s < ships.length; s++) {
                if (ships[s].where == Ship.AT_FRONT) {
                    return s;
                }
            }
            return NONE;
        }

        int leftIn(Zone zone, int z) {
            if (z < front) {
                return 0;
            }
            return z == front ? zone.length - laidHere : zone.length;
        }

        int aboardOfAll() {
            int aboard = 0;
            for (Ship ship : ships) {
                aboard += ship.aboard;
            }
            return aboard;
        }

        // ---- what is done between the days

        boolean canLoadOnto(Ship ship, int units) {
            return units >= 1 && ship.where == Ship.IN_PORT && units <= depot && units <= ship.capacity - ship.aboard;
        }

        void loadOnto(Ship ship, int units) {
            depot -= units;
            ship.aboard += units;
        }

        boolean canSendOut(Ship ship) {
            return ship.where == Ship.IN_PORT && !isFinished();
        }

        void sendOut(Ship ship) {
            ship.sail(Ship.SAILS_OUT, front + 1);
        }

        boolean canCallHome(Ship ship) {
            return ship.where == Ship.WAITS || ship.where == Ship.AT_FRONT;
        }

        void callHome(Ship ship) {
            if (ship.where == Ship.AT_FRONT) {
                teams.leaveFront();
            }
            ship.sail(Ship.SAILS_HOME, isFinished() ? zoneCount : front + 1);
        }

        boolean canProlong(Zone zone, int days) {
            return days >= 1 && zone.last + days <= Zone.LATEST_DAY;
        }

        void prolong(Zone zone, int days) {
            zone.last += days;
            ledger.extensionCosts += PERMIT_DAY_PRICE * days;
        }

        boolean canPurchase(int units) {
            return units >= 1 && depot + units <= MOST_DEPOT;
        }

        void purchase(int units) {
            depot += units;
            ledger.cable += units;
            ledger.cableCosts += UNIT_PRICE * units;
        }

        boolean fillAndSend(int s) {
            Ship ship = shipNumbered(s);
            if (ship == null || !canSendOut(ship)) {
                return false;
            }
            loadOnto(ship, Math.min(depot, ship.capacity - ship.aboard));
            sendOut(ship);
            return true;
        }

        // ---- the days

        void passDays(int days) {
            for (int i = 0; i < days; i++) {
                passDay();
            }
        }

        int daysUntilDone(int z) {
            for (int days = 0; days < FORECAST_DAYS; days++) {
                if (front > z) {
                    return days;
                }
                passDay();
            }
            return front > z ? FORECAST_DAYS : NONE;
        }

        void playRound(int r) {
            if (r < 0 || shipCount <= 0 || weather.count <= 0) {
                return;
            }
            int kind = r % 8;
            if (kind == 0) {
                weather.change(r / 64 % weather.count, r / 2048 % 10);
            } else if (kind <= 2) {
                fillAndSend(r / 8 % shipCount);
            }
            passDay();
        }

        void passDay() {
            for (Ship ship : ships) {
                ship.sailOneDay();
            }
            if (isFinished()) {
                reason = NOTHING_WRONG;
            } else {
                comeToFront();
                reason = workAtFront();
            }
            bookDay();
            teams.restOneDay();
            day++;
        }

        private void comeToFront() {
            if (numberAtFront() != NONE) {
                return;
            }
            for (Ship ship : ships) {
                if (ship.where == Ship.WAITS) {
                    ship.where = Ship.AT_FRONT;
                    teams.needed = ledger.laid > 0;
                    return;
                }
            }
        }

        private int workAtFront() {
            Ship ship = shipNumbered(numberAtFront());
            Zone zone = zoneNumbered(front);
            if (ship == null || zone == null) {
                return NO_SHIP;
            }
            if (teams.needed && !teams.beginSplice(weather.on(day))) {
                return NO_SPLICE;
            }
            if (teams.spliceGoesOn()) {
                teams.workOnSplice();
                return NOTHING_WRONG;
            }
            if (day < zone.first) {
                return BEFORE_PERMIT;
            }
            if (day > zone.last) {
                return AFTER_PERMIT;
            }
            if (weather.on(day) > ship.greatestWaves) {
                return ROUGH_SEA;
            }
            return lay(ship, zone);
        }

        private int lay(Ship ship, Zone zone) {
            int units = zone.mostUnits(Math.min(ship.speed, zone.length - laidHere), ship.aboard);
            if (units <= 0) {
                ship.sail(Ship.SAILS_HOME, front + 1);
                return NO_CABLE;
            }
            int cable = zone.cableFor(units);
            ship.aboard -= cable;
            ship.laid += units;
            ledger.laid += units;
            ledger.slackUsed += cable - units;
            laidHere += units;
            if (laidHere >= zone.length) {
                front++;
                laidHere = 0;
                if (isFinished()) {
                    ship.sail(Ship.SAILS_HOME, zoneCount);
                }
            }
            return NOTHING_WRONG;
        }

        private void bookDay() {
            boolean frontWaits = reason == BEFORE_PERMIT || reason == AFTER_PERMIT || reason == ROUGH_SEA
                    || reason == NO_SPLICE;
            for (Ship ship : ships) {
                if (ship.where != Ship.IN_PORT) {
                    ledger.seaCosts += ship.rate;
                }
                if (ship.where == Ship.WAITS || ship.where == Ship.AT_FRONT && frontWaits) {
                    ledger.waitingCosts += ship.rate;
                }
            }
        }
    }

    private static final class Slot {
        final State state = new State();
        boolean filled;
    }

    private static final class History {
        static final int MOST = 14;

        final State[] states = new State[MOST];
        int oldest;
        int count;

        History() {
            for (int i = 0; i < states.length; i++) {
                states[i] = new State();
            }
        }

        void clear() {
            oldest = 0;
            count = 0;
        }

        void remember(State state) {
            State place = placeOf(count);
            if (place != null) {
                place.copyFrom(state);
            }
            if (count < MOST) {
                count++;
            } else {
                oldest = (oldest + 1) % MOST;
            }
        }

        int takeBack(State state) {
            State place = placeOf(count - 1);
            if (place != null && count > 0) {
                count--;
                state.copyFrom(place);
            }
            return count;
        }

        /** The rows go round: behind the last place the first one follows. */
        private State placeOf(int age) {
            int i = (oldest + age) % MOST;
            return i >= 0 && i < states.length ? states[i] : null;
        }
    }

    private static final class Script {
        static final int GROUP = 100000;

        static long withoutLast(long script, int groups) {
            long rest = script;
            for (int i = 0; i < groups; i++) {
                rest = rest / GROUP;
            }
            return rest;
        }

        /** A 0 that a command writes ahead of a number is asked for by the bound of that number. */
        static boolean succeeds(State state, int group) {
            int second = group / 1000 % 10;
            int tail = group % 1000;
            switch (group / 10000) {
                case 1: return takes(state, state.shipNumbered(second), tail);
                case 2: return tail == 0 && sends(state, state.shipNumbered(second));
                case 3: return tail == 0 && recalls(state, state.shipNumbered(second));
                case 4: return tail < 100 && extendsPermit(state, state.zoneNumbered(second), tail);
                case 5:
                    if (second != 0 || tail < 1 || tail > MOST_DAYS_AT_ONCE) {
                        return false;
                    }
                    state.passDays(tail);
                    return true;
                case 6: return second == 0 && buys(state, tail);
                case 7: return tail < 100 && state.front == second && state.laidHere == tail;
                case 8: return tail < 10 && isAt(state.shipNumbered(second), tail);
                case 9: return second == 0 && tail < 10 && state.reason == tail;
                default: return false;
            }
        }

        private static boolean takes(State state, Ship ship, int units) {
            if (ship == null || !state.canLoadOnto(ship, units)) {
                return false;
            }
            state.loadOnto(ship, units);
            return true;
        }

        private static boolean sends(State state, Ship ship) {
            if (ship == null || !state.canSendOut(ship)) {
                return false;
            }
            state.sendOut(ship);
            return true;
        }

        private static boolean recalls(State state, Ship ship) {
            if (ship == null || !state.canCallHome(ship)) {
                return false;
            }
            state.callHome(ship);
            return true;
        }

        private static boolean extendsPermit(State state, Zone zone, int days) {
            if (zone == null || !state.canProlong(zone, days)) {
                return false;
            }
            state.prolong(zone, days);
            return true;
        }

        private static boolean buys(State state, int units) {
            if (!state.canPurchase(units)) {
                return false;
            }
            state.purchase(units);
            return true;
        }

        private static boolean isAt(Ship ship, int where) {
            return ship != null && ship.where == where;
        }
    }

    private static final class Text {
        static final int LIMIT = 160;

        final char[] signs = new char[LIMIT];
        int length;
        private int position;
        private boolean allowed;

        boolean hasRoom() {
            return length >= 0 && length < signs.length;
        }

        int add(char sign) {
            if (hasRoom()) {
                signs[length] = sign;
                length++;
            }
            return length;
        }

        int clear() {
            int previous = length;
            length = 0;
            return previous;
        }

        /** Answers the error position, or NONE; only then the state is whole. */
        int readInto(State state) {
            position = 0;
            allowed = true;
            readHead(state);
            for (int i = 0; allowed && i < State.MOST_ZONES && (i == 0 || nextIs('z')); i++) {
                readZone(state);
            }
            for (int i = 0; allowed && i < State.MOST_SHIPS && (i == 0 || nextIs('s')); i++) {
                readShip(state);
            }
            readWeather(state);
            return allowed ? NONE : position;
        }

        private void readHead(State state) {
            readLetter('C');
            int teamCount = readNumber(1, 1, Teams.MOST);
            int spliceDays = readNumber(1, 1, 3);
            state.begin(teamCount, spliceDays, readNumber(4, 0, State.MOST_DEPOT));
        }

        private void readZone(State state) {
            readLetter('z');
            int length = readNumber(2, 1, 99);
            int first = readNumber(2, 0, 99);
            int last = readNumber(2, first, 99);
            state.addZone(length, first, last, readNumber(1, 0, 9));
        }

        private void readShip(State state) {
            readLetter('s');
            int capacity = readNumber(3, 10, 999);
            int speed = readNumber(2, 1, 20);
            int waves = readNumber(1, 1, 9);
            state.addShip(capacity, speed, waves, readNumber(2, 1, 99));
        }

        private void readWeather(State state) {
            readLetter('w');
            for (int i = 0; allowed && i < Weather.MOST && (i == 0 || position < length); i++) {
                state.weather.add(readNumber(1, 0, 9));
            }
            allowed = allowed && position == length;
        }

        private boolean nextIs(char sign) {
            return position >= 0 && position < length && position < signs.length && signs[position] == sign;
        }

        private void readLetter(char letter) {
            allowed = allowed && nextIs(letter);
            if (allowed) {
                position++;
            }
        }

        private int readNumber(int digits, int least, int most) {
            int span = 1;
            for (int i = 0; i < digits; i++) {
                span = span * 10;
            }
            int number = 0;
            for (int i = 0; i < digits && allowed; i++) {
                int digit = nextDigit();
                span = span / 10;
                int smallest = (number * 10 + digit) * span;
                // The number that is begun can still become any one from smallest to smallest + span - 1.
                allowed = digit >= 0 && smallest <= most && smallest + span - 1 >= least;
                if (allowed) {
                    number = number * 10 + digit;
                    position++;
                }
            }
            return number;
        }

        private int nextDigit() {
            if (position < 0 || position >= length || position >= signs.length) {
                return NONE;
            }
            char sign = signs[position];
            return sign >= '0' && sign <= '9' ? sign - '0' : NONE;
        }
    }
}
