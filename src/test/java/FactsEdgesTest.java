/** The boundary cases of the promises 1 and 6 to 10: a new object, about, zone, ship, waves, account. */
public final class FactsEdgesTest {
    private static final Class<IllegalArgumentException> RANGE = IllegalArgumentException.class;
    private static final Class<IndexOutOfBoundsException> NUMBER = IndexOutOfBoundsException.class;
    private static final String TEXT = "C220500z1200994z1003503s06005410s04004720w32";
    private static final int NONE = CableLanding.NONE;

    public static void main(String[] args) {
        Sentences.of("Promise 1: A new object");
        Sentences.holds("Creates the route with one zone and one ship that is described above",
                FactsEdgesTest::newObject);
        about();
        zoneAndShip();
        wavesAndAccount();
        Sentences.end();
    }

    private static void about() {
        Sentences.of("Promise 6: about");
        Sentences.holds("Returns a number", FactsEdgesTest::fixedNumbers);
        Sentences.holds("0: Z; 1: S; 2: T; 3: D", FactsEdgesTest::fixedNumbers);
        Sentences.holds("4: the depot", FactsEdgesTest::depot);
        Sentences.holds("5: the day", FactsEdgesTest::day);
        Sentences.holds("6: the zone of the front (Z if the route is finished)", FactsEdgesTest::zoneOfTheFront);
        Sentences.holds("7: what is laid in this zone (0 if the route is finished)", FactsEdgesTest::laidInThisZone);
        Sentences.holds("8: the ship at the front (NONE if there is none)", FactsEdgesTest::shipAtTheFront);
        Sentences.holds("9: the reason of the last day (0 if there was none)", FactsEdgesTest::reasonOfTheLastDay);
        Sentences.holds("10: 1 if a splice is needed, 2 if one goes on, 0 otherwise", FactsEdgesTest::splice);
        Sentences.holds("11: its days left (0 if none goes on)", FactsEdgesTest::splice);
        Sentences.holds("12: splices that are done", FactsEdgesTest::splice);
        Sentences.holds("13: teams that are free", FactsEdgesTest::splice);
        Sentences.holds("Returns that number", FactsEdgesTest::fixedNumbers);
        Sentences.holds("Throws `IllegalArgumentException` if what is not 0 to 13",
                () -> Story.onlyFrom(0, 13, RANGE, FactsEdgesTest::underWay, (x, what) -> x.about(what)));
    }

    private static void zoneAndShip() {
        Sentences.of("Promise 7: zone");
        Sentences.holds("Returns a number of a zone", FactsEdgesTest::numbersOfZones);
        Sentences.holds("`z`: zone", FactsEdgesTest::numbersOfZones);
        Sentences.holds("0: its length; 1: the first day, 2: the last day of its permit; 3: its slack",
                FactsEdgesTest::numbersOfZones);
        Sentences.holds("4: what is left to be laid in it", FactsEdgesTest::leftInZones);
        Sentences.holds("Returns that number", FactsEdgesTest::numbersOfZones);
        Sentences.holds("Throws `IndexOutOfBoundsException` if there is no such zone",
                () -> Story.onlyFrom(0, 1, NUMBER, FactsEdgesTest::underWay, (x, z) -> x.zone(z, 4)));
        Sentences.holds("Throws `IllegalArgumentException` if what is not 0 to 4",
                () -> Story.onlyFrom(0, 4, RANGE, FactsEdgesTest::underWay, (x, what) -> x.zone(1, what)));
        Sentences.of("Promise 8: ship");
        Sentences.holds("Returns a number of a ship", FactsEdgesTest::numbersOfShips);
        Sentences.holds("`s`: ship", FactsEdgesTest::numbersOfShips);
        Sentences.holds("0: its capacity; 1: its speed; 2: its waves; 3: its rate", FactsEdgesTest::numbersOfShips);
        Sentences.holds("4: the cable aboard", FactsEdgesTest::cableAboard);
        Sentences.holds("5: where it is, 0 to 4", FactsEdgesTest::placesOfShips);
        Sentences.holds("6: its days left if it sails, otherwise 0", FactsEdgesTest::placesOfShips);
        Sentences.holds("7: what it has laid so far", FactsEdgesTest::laidByShips);
        Sentences.holds("Returns that number", FactsEdgesTest::numbersOfShips);
        Sentences.holds("Throws `IndexOutOfBoundsException` if there is no such ship",
                () -> Story.onlyFrom(0, 1, NUMBER, FactsEdgesTest::underWay, (x, s) -> x.ship(s, 7)));
        Sentences.holds("Throws `IllegalArgumentException` if what is not 0 to 7",
                () -> Story.onlyFrom(0, 7, RANGE, FactsEdgesTest::underWay, (x, what) -> x.ship(1, what)));
    }

    private static void wavesAndAccount() {
        Sentences.of("Promise 9: waves");
        Sentences.holds("Returns the waves of a day", FactsEdgesTest::wavesOfDays);
        Sentences.holds("`day`: 0 to 9999", FactsEdgesTest::wavesOfDays);
        Sentences.holds("Returns the waves.", FactsEdgesTest::wavesOfDays);
        Sentences.holds("Throws `IllegalArgumentException` if day is out of range",
                () -> Story.onlyFrom(0, 9999, RANGE, FactsEdgesTest::underWay, (x, day) -> x.waves(day)));
        Sentences.of("Promise 10: account");
        Sentences.holds("Returns an account", FactsEdgesTest::cableAccounts);
        Sentences.holds("0: all cable that there was at first or was bought", FactsEdgesTest::cableAccounts);
        Sentences.holds("1: what is laid; 2: the slack that was used", FactsEdgesTest::laidAndSlack);
        Sentences.holds("3: the cable aboard of all ships", FactsEdgesTest::cableAboard);
        Sentences.holds("4: the costs of days at sea; 5: the costs of waiting", FactsEdgesTest::costs);
        Sentences.holds("6: what was paid for extensions; 7: what was paid for cable", FactsEdgesTest::paid);
        Sentences.holds("Returns that number", FactsEdgesTest::cableAccounts);
        Sentences.holds("Throws `IllegalArgumentException` if what is not 0 to 7",
                () -> Story.onlyFrom(0, 7, RANGE, FactsEdgesTest::underWay, (x, what) -> x.account(what)));
    }

    /** Ship 0 lays 5, 5 and 2 units in zone 0, then 5 in zone 1, as zone 0 is done on day 2. */
    private static CableLanding underWay() {
        CableLanding x = Check.loaded(TEXT);
        x.take(0, 30);
        x.send(0);
        x.pass(3);
        return x;
    }

    private static CableLanding finished() {
        CableLanding x = Check.loaded("C110100z0200990z0300990s05001910s05001920w3");
        x.take(0, 5);
        x.send(0);
        x.pass(5);
        return x;
    }

    // ---- a new object, about

    private static void newObject() {
        CableLanding x = new CableLanding();
        Check.isTrue("as its text", Story.view(x).equals(Story.view(Check.loaded("C120200z5000995s10010520w3"))));
        Check.notNow("nothing is remembered", x::undo);
        Check.notNow("slot 0 is empty", () -> x.restore(0));
        Check.notNow("slot 1 is empty", () -> x.restore(1));
        Check.same("there is no text", x.errorPosition(), 0);
        Check.notNow("it cannot be loaded", x::load);
        Check.same("its length", x.clearText(), 0);
        CableLanding y = new CableLanding();
        y.buy(1);
        Check.same("two objects have nothing in common", x.about(4), 200);
    }

    private static void fixedNumbers() {
        int[] due = {2, 2, 2, 2};
        CableLanding least = Check.loaded("C110000z0100000s01001101w0");
        CableLanding most = Check.loaded("C330000" + "z0100000".repeat(9) + "s01001101".repeat(4) + "w0");
        int[] greatest = {9, 4, 3, 3};
        for (int what = 0; what < 4; what++) {
            Check.same("about " + what, underWay().about(what), due[what]);
            Check.same("the least about " + what, least.about(what), 1);
            Check.same("the greatest about " + what, most.about(what), greatest[what]);
        }
    }

    private static void depot() {
        CableLanding x = underWay();
        Check.same("without what was taken", x.about(4), 470);
        x.buy(1);
        Check.same("with what was bought", x.about(4), 471);
        x.take(1, 1);
        Check.same("without what was taken then", x.about(4), 470);
        CableLanding full = Check.loaded("C119999z0100000s01001101w0");
        Check.same("a full one", full.about(4), 9999);
        CableLanding small = Check.loaded("C110010z0100000s01001101w0");
        small.take(0, 10);
        Check.same("an empty one", small.about(4), 0);
    }

    private static void day() {
        CableLanding x = new CableLanding();
        Check.same("at first", x.about(5), 0);
        x.pass(1);
        Check.same("behind day 0", x.about(5), 1);
        x.pass(99);
        Check.same("behind day 99", x.about(5), 100);
    }

    private static void zoneOfTheFront() {
        CableLanding x = underWay();
        Check.same("zone 1, as zone 0 is done", x.about(6), 1);
        x.undo();
        Check.same("zone 0 at first", x.about(6), 0);
        x.pass(2);
        Check.same("zone 0, as 2 units are left", x.about(6), 0);
        Check.same("Z behind the end", finished().about(6), 2);
        CableLanding nine = Check.loaded("C110100" + "z0100990".repeat(9) + "s05001910w0");
        nine.take(0, 9);
        nine.send(0);
        nine.pass(8);
        Check.same("the last of nine", nine.about(6), 8);
        nine.pass(1);
        Check.same("behind the last of nine", nine.about(6), 9);
    }

    private static void laidInThisZone() {
        CableLanding x = underWay();
        Check.same("nothing in zone 1", x.about(7), 0);
        x.pass(1);
        Check.same("a day's units in zone 1", x.about(7), 5);
        x.undo();
        x.undo();
        Check.same("nothing in zone 0", x.about(7), 0);
        x.pass(2);
        Check.same("all but 2 in zone 0", x.about(7), 10);
        Check.same("behind the end", finished().about(7), 0);
    }

    private static void shipAtTheFront() {
        CableLanding x = underWay();
        Check.same("ship 0", x.about(8), 0);
        x.recall(0);
        Check.same("none, as it is called home", x.about(8), NONE);
        x.send(1);
        x.pass(1);
        Check.same("none, as both are at sea", x.about(8), NONE);
        x.pass(1);
        Check.same("ship 1", x.about(8), 1);
        Check.same("none at first", new CableLanding().about(8), NONE);
        Check.same("none behind the end", finished().about(8), NONE);
    }

    private static void reasonOfTheLastDay() {
        CableLanding x = new CableLanding();
        Check.same("no day", x.about(9), 0);
        x.pass(1);
        Check.same("a day without a ship", x.about(9), 6);
        x.take(0, 1);
        x.send(0);
        Check.same("it stays until the next day", x.about(9), 6);
        x.pass(1);
        Check.same("a day without enough cable", x.about(9), 4);
        Check.same("behind the end", finished().about(9), 0);
    }

    private static void splice() {
        CableLanding x = underWay();
        Check.same("free at first", x.about(13), 2);
        x.recall(0);
        x.take(1, 40);
        x.send(1);
        x.setWaves(1, 4);
        x.setWaves(0, 4);
        splice(x, 0, 0, 0, 2);
        x.pass(2);
        splice(x, 1, 0, 0, 2);
        x.setWaves(1, 3);
        x.pass(1);
        splice(x, 2, 1, 0, 1);
        x.pass(1);
        splice(x, 0, 0, 1, 1);
        x.pass(2);
        splice(x, 0, 0, 1, 2);
        CableLanding y = Check.loaded("C330000z0100000s01001101w0");
        splice(y, 0, 0, 0, 3);
    }

    private static void splice(CableLanding x, int stage, int daysLeft, int done, int free) {
        int day = x.about(5);
        Check.same("the splice before day " + day, x.about(10), stage);
        Check.same("its days left before day " + day, x.about(11), daysLeft);
        Check.same("splices done before day " + day, x.about(12), done);
        Check.same("free teams before day " + day, x.about(13), free);
    }

    // ---- zone, ship

    private static void numbersOfZones() {
        CableLanding x = underWay();
        int[][] due = {{12, 0, 99, 4}, {10, 3, 50, 3}};
        for (int z = 0; z < 2; z++) {
            for (int what = 0; what < 4; what++) {
                Check.same("zone " + z + " " + what, x.zone(z, what), due[z][what]);
            }
        }
        x.extend(1, 99);
        Check.same("an extended permit", x.zone(1, 2), 149);
        Check.same("its first day", x.zone(1, 1), 3);
    }

    private static void leftInZones() {
        CableLanding x = underWay();
        Check.same("nothing in the zone that is done", x.zone(0, 4), 0);
        Check.same("all in the zone that is begun now", x.zone(1, 4), 10);
        x.pass(1);
        Check.same("half of it", x.zone(1, 4), 5);
        x.undo();
        x.undo();
        Check.same("all in zone 0", x.zone(0, 4), 12);
        Check.same("all in the zone behind the front", x.zone(1, 4), 10);
        x.pass(2);
        Check.same("2 in zone 0", x.zone(0, 4), 2);
        CableLanding y = finished();
        Check.same("nothing behind the end", y.zone(0, 4) + y.zone(1, 4), 0);
    }

    private static void numbersOfShips() {
        CableLanding x = underWay();
        int[][] due = {{60, 5, 4, 10}, {40, 4, 7, 20}};
        for (int s = 0; s < 2; s++) {
            for (int what = 0; what < 4; what++) {
                Check.same("ship " + s + " " + what, x.ship(s, what), due[s][what]);
            }
        }
    }

    private static void cableAboard() {
        CableLanding x = underWay();
        Check.same("6, 6 and 3 are used of 30", x.ship(0, 4), 15);
        Check.same("nothing aboard of ship 1", x.ship(1, 4), 0);
        x.take(1, 40);
        Check.same("a full ship 1", x.ship(1, 4), 40);
        Check.same("both", x.account(3), 55);
        CableLanding four = Check.loaded("C110100z0100000" + "s01001101".repeat(4) + "w0");
        for (int s = 0; s < 4; s++) {
            Check.same("all ships", four.account(3), 10 * s);
            four.take(s, 10);
        }
        Check.same("all four", four.account(3), 40);
    }

    private static void placesOfShips() {
        CableLanding x = underWay();
        x.send(1);
        // Ship 0 finishes the route on the second day, and is in port two days later.
        int[][] due = {{3, 0, 1, 2}, {3, 0, 1, 1}, {4, 2, 2, 0}, {4, 1, 2, 0}, {0, 0, 2, 0}};
        for (int day = 0; day < due.length; day++) {
            for (int i = 0; i < 4; i++) {
                Check.same("day " + day + ", number " + i, x.ship(i / 2, 5 + i % 2), due[day][i]);
            }
            x.pass(1);
        }
        CableLanding y = underWay();
        y.recall(0);
        Check.same("sails home", y.ship(0, 5), 4);
        Check.same("its days left", y.ship(0, 6), 2);
        y.pass(2);
        Check.same("in port", y.ship(0, 5), 0);
        Check.same("no days left", y.ship(0, 6), 0);
    }

    private static void laidByShips() {
        CableLanding x = underWay();
        Check.same("ship 0", x.ship(0, 7), 12);
        Check.same("ship 1", x.ship(1, 7), 0);
        x.pass(1);
        Check.same("in all zones", x.ship(0, 7), 17);
        x.recall(0);
        x.pass(2);
        Check.same("also in port", x.ship(0, 7), 17);
    }

    // ---- waves, account

    private static void wavesOfDays() {
        CableLanding x = underWay();
        Check.same("day 0", x.waves(0), 3);
        Check.same("day 1", x.waves(1), 2);
        Check.same("day 2, behind the last entry", x.waves(2), 3);
        Check.same("day 9998", x.waves(9998), 3);
        Check.same("day 9999", x.waves(9999), 2);
        Check.noRange("day -1", () -> x.waves(-1));
        Check.noRange("day 10000", () -> x.waves(10000));
        CableLanding y = Check.loaded("C110100z0100000s01001101w" + "012345678901234567890123456789");
        for (int day : new int[] {0, 9, 10, 29, 30, 31, 59, 60, 9999}) {
            Check.same("day " + day + " of 30", y.waves(day), day % 10);
        }
    }

    private static void cableAccounts() {
        CableLanding x = underWay();
        Check.same("the depot at first", x.account(0), 500);
        x.buy(999);
        Check.same("with what was bought", x.account(0), 1499);
        x.take(1, 40);
        Check.same("taking changes nothing in it", x.account(0), 1499);
        Check.same("all of it is somewhere", x.about(4) + x.account(1) + x.account(2) + x.account(3), 1499);
        Check.same("none", Check.loaded("C110000z0100000s01001101w0").account(0), 0);
        Check.same("the most at first", Check.loaded("C119999z0100000s01001101w0").account(0), 9999);
    }

    private static void laidAndSlack() {
        CableLanding x = underWay();
        Check.same("laid", x.account(1), 12);
        Check.same("slack of 1 for each of 5, 5 and 2 units", x.account(2), 3);
        x.pass(1);
        Check.same("laid in both zones", x.account(1), 17);
        Check.same("slack in both zones", x.account(2), 4);
        Check.same("no slack at all", finished().account(2), 0);
    }

    private static void costs() {
        CableLanding x = underWay();
        Check.same("3 days at sea", x.account(4), 30);
        Check.same("no waiting", x.account(5), 0);
        x.setWaves(1, 9);
        x.pass(1);
        Check.same("4 days at sea", x.account(4), 40);
        Check.same("a day of waiting", x.account(5), 10);
        x.recall(0);
        x.pass(9);
        Check.same("a day on the way home", x.account(4), 50);
        Check.same("no more waiting", x.account(5), 10);
    }

    private static void paid() {
        CableLanding x = underWay();
        Check.same("no extension", x.account(6), 0);
        Check.same("no cable", x.account(7), 0);
        x.extend(0, 1);
        Check.same("a day", x.account(6), 50);
        x.extend(1, 99);
        Check.same("99 days more", x.account(6), 5000);
        x.buy(1);
        Check.same("a unit", x.account(7), 3);
        x.buy(999);
        Check.same("999 units more", x.account(7), 3000);
        Check.same("neither is a cost of days at sea", x.account(4), 30);
    }
}
