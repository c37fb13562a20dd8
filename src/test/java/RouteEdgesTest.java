/** The boundary cases in "ROUTE, SHIPS, WEATHER", and those of the sentences round it. */
public final class RouteEdgesTest {
    /** Ships of the capacity 10, in waves that all of them bear. */
    private static final String FOUR_SHIPS = "C110400z9900990s01001910s01001920s01001930s01001940w0";

    public static void main(String[] args) {
        Sentences.of("What it is");
        Sentences.holds("The laying of a sea cable", RouteEdgesTest::zonesInOrder);
        Sentences.holds("An object is used for at most 512 calls after it has been made; what later calls answer is free",
                RouteEdgesTest::lastCall);
        Sentences.of("Terms");
        Sentences.holds("tells each day's reason for waiting", RouteEdgesTest::changesCanBeUndone);
        Sentences.holds("Changes can be undone", RouteEdgesTest::changesCanBeUndone);
        Sentences.of("ROUTE, SHIPS, WEATHER");
        zones();
        ships();
        teamsDepotWeather();
        Sentences.of("The constants: `NONE = -9`: There is no such result.");
        Sentences.holds("---- text", () -> Check.same("NONE", CableLanding.NONE, -9));
        Sentences.holds("---- what there is", () -> Check.same("NONE", new CableLanding().about(8), -9));
        Sentences.holds("---- actions", RouteEdgesTest::changesCanBeUndone);
        Sentences.holds("---- cable; these and all following methods up to the save slots change nothing",
                RouteEdgesTest::questionsChangeNothing);
        Sentences.holds("---- forecasts", RouteEdgesTest::questionsChangeNothing);
        Sentences.holds("---- scripts, simulations", RouteEdgesTest::questionsChangeNothing);
        Sentences.holds("---- save slots", RouteEdgesTest::changesCanBeUndone);
        Sentences.end();
    }

    private static void zones() {
        Sentences.holds("All cable is told in whole units", RouteEdgesTest::roundedUp);
        Sentences.holds("Z zones, 1 to 9, numbered from 0", RouteEdgesTest::oneZoneAndNine);
        Sentences.holds("which are laid in this order", RouteEdgesTest::zonesInOrder);
        Sentences.holds("a length from 1 to 99", RouteEdgesTest::lengths);
        Sentences.holds("a permit from a first to a last day (0 to 999)", RouteEdgesTest::firstAndLastDay);
        Sentences.holds("a slack from 0 to 9 percent", RouteEdgesTest::slacks);
        Sentences.holds("the division rounded up", RouteEdgesTest::roundedUp);
        Sentences.holds("(for what is laid in each day by itself)", RouteEdgesTest::eachDayByItself);
    }

    private static void ships() {
        Sentences.holds("There are S ships, 1 to 4, numbered from 0", RouteEdgesTest::oneShipAndFour);
        Sentences.holds("a capacity from 10 to 999", RouteEdgesTest::capacities);
        Sentences.holds("a speed from 1 to 20 (units that it can lay in a day)", RouteEdgesTest::speeds);
        Sentences.holds("the greatest waves in which it can lay, 1 to 9", RouteEdgesTest::wavesOfShips);
        Sentences.holds("a rate from 1 to 99 (what a day at sea costs)", RouteEdgesTest::rates);
        Sentences.holds("the cable aboard, 0 at first", RouteEdgesTest::shipsAtFirst);
        Sentences.holds("A ship is in port (0), sails out (1), waits near the front (2), is at the front (3), or sails"
                + " home (4)", RouteEdgesTest::places);
        Sentences.holds("at first all are in port", RouteEdgesTest::shipsAtFirst);
        Sentences.holds("The front is where the cable ends", RouteEdgesTest::zonesInOrder);
        Sentences.holds("at most one ship is at it", RouteEdgesTest::oneAtTheFront);
    }

    private static void teamsDepotWeather() {
        Sentences.holds("There are T teams, 1 to 3", RouteEdgesTest::teams);
        Sentences.holds("a splice takes D days, 1 to 3, of one team", RouteEdgesTest::daysOfSplices);
        Sentences.holds("which then rests for 2 days", RouteEdgesTest::restOfTeams);
        Sentences.holds("The depot has 0 to 9999 units", RouteEdgesTest::depots);
        Sentences.holds("a row of W waves, 1 to 30 numbers from 0 to 9", RouteEdgesTest::rowsOfWaves);
        Sentences.holds("the waves of day d are the entry d % W", RouteEdgesTest::behindTheLastEntry);
        Sentences.holds("A new object has one zone with the length 50, the permit from 0 to 99 and the slack 5",
                RouteEdgesTest::newObject);
        Sentences.holds("the day is 0", RouteEdgesTest::newObject);
    }

    // ---- round it

    private static void changesCanBeUndone() {
        CableLanding x = new CableLanding();
        x.pass(1);
        Check.same("the reason without a ship", x.about(9), 6);
        Check.same("undo", x.undo(), 0);
        Check.same("the day", x.about(5), 0);
        Check.same("the reason", x.about(9), 0);
        Check.same("save is none of the changes", x.save(1), 0);
        Check.notNow("undo", x::undo);
    }

    private static void lastCall() {
        CableLanding x = new CableLanding();
        for (int i = 1; i <= 498; i++) {
            Check.same("call " + i, x.setWaves(0, i % 10), i == 1 ? 3 : (i - 1) % 10);
        }
        for (int i = 13; i >= 0; i--) {
            Check.same("call " + (512 - i), x.undo(), i);
        }
        CableLanding y = new CableLanding();
        for (int i = 1; i <= 511; i++) {
            y.pass(99);
        }
        Check.same("the day, call 512", y.about(5), 511 * 99);
    }

    private static void questionsChangeNothing() {
        Story.changesNothing("needs", RouteEdgesTest::busy, x -> x.needs(1, 99));
        Story.changesNothing("reach", RouteEdgesTest::busy, x -> x.reach(0, 1));
        Story.changesNothing("calmDays", RouteEdgesTest::busy, x -> x.calmDays(1, 1));
        Story.changesNothing("ahead", RouteEdgesTest::busy, x -> x.ahead(99, 2));
        Story.changesNothing("doneAfter", RouteEdgesTest::busy, x -> x.doneAfter(1));
        Story.changesNothing("bestShip", RouteEdgesTest::busy, x -> x.bestShip());
        Story.changesNothing("extension", RouteEdgesTest::busy, x -> x.extension(1));
        Story.changesNothing("runScript", RouteEdgesTest::busy, x -> x.runScript(3, 600072100050020L));
        Story.changesNothing("simulate", RouteEdgesTest::busy, x -> x.simulate(12345, 99));
    }

    /** A ship at the front, one in port, two remembered states, a slot that is full and one that is empty. */
    private static CableLanding busy() {
        CableLanding x = Check.loaded("C220300z2000992z3003503s06005410s05004720w324");
        x.take(0, 30);
        x.save(1);
        x.send(0);
        x.pass(2);
        return x;
    }

    // ---- zones

    private static void oneZoneAndNine() {
        CableLanding one = Check.loaded("C110100z0700990s05010910w0");
        Check.same("Z", one.about(0), 1);
        Check.same("the first zone", one.zone(0, 0), 7);
        Check.noZone("a second zone", () -> one.zone(1, 0));
        CableLanding nine = Check.loaded("C110100" + "z0700990".repeat(8) + "z0800990" + "s05010910w0");
        Check.same("Z", nine.about(0), 9);
        Check.same("the ninth zone", nine.zone(8, 0), 8);
        Check.noZone("a tenth zone", () -> nine.zone(9, 0));
    }

    private static void zonesInOrder() {
        StringBuilder text = new StringBuilder("C110100");
        for (int length = 1; length <= 9; length++) {
            text.append("z0").append(length).append("00990");
        }
        CableLanding x = Check.loaded(text.append("s05020910w0").toString());
        x.take(0, 45);
        x.send(0);
        for (int z = 0; z < 9; z++) {
            Check.same("the front", x.about(6), z);
            Check.same("what is laid in zone " + z, x.pass(1), z + 1);
        }
        Check.same("the front behind the last zone", x.about(6), 9);
    }

    private static void lengths() {
        CableLanding x = Check.loaded("C110100z0100990z9900990s10020910w0");
        x.take(0, 100);
        x.send(0);
        Check.same("the length 1", x.zone(0, 0), 1);
        Check.same("it is done at once", x.pass(1), 1);
        Check.same("the length 99", x.zone(1, 0), 99);
        Check.same("on 4 days", x.pass(4), 80);
        Check.same("not yet done", x.about(6), 1);
        Check.same("on the fifth", x.pass(1), 19);
        Check.same("done", x.about(6), 2);
    }

    private static void firstAndLastDay() {
        CableLanding x = Check.loaded("C110100z2000000s05001910w0");
        x.take(0, 9);
        x.send(0);
        Check.same("on day 0", x.pass(1), 1);
        Check.same("on day 1", x.pass(1), 0);
        CableLanding y = Check.loaded("C110100z2099990s05001910w0");
        for (int i = 0; i < 9; i++) {
            y.extend(0, 99);
        }
        Check.same("the last day", y.extend(0, 9), 999);
        y.take(0, 9);
        y.pass(98);
        y.send(0);
        Check.same("on day 98", y.pass(1), 0);
        Check.same("on day 99", y.pass(1), 1);
        y.recall(0);
        for (int i = 0; i < 9; i++) {
            y.pass(99);
        }
        y.send(0);
        Check.same("on day 991, the splice", y.pass(1), 0);
        Check.same("on the days 992 to 998", y.pass(7), 7);
        Check.same("on day 999", y.pass(1), 1);
        Check.same("on day 1000", y.pass(1), 0);
        Check.same("its reason", y.about(9), 2);
    }

    private static void slacks() {
        CableLanding x = Check.loaded("C110400z9900990z9900999s30020910w0");
        Check.same("1 unit, slack 0", x.needs(0, 1), 1);
        Check.same("99 units, slack 0", x.needs(0, 99), 99);
        Check.same("1 unit, slack 9", x.needs(1, 1), 2);
        Check.same("99 units, slack 9", x.needs(1, 99), 108);
        x.take(0, 300);
        x.send(0);
        x.pass(5);
        Check.same("used with the slack 0", x.account(2), 0);
        x.pass(1);
        Check.same("used with the slack 9 for 20 units", x.account(2), 2);
    }

    private static void roundedUp() {
        CableLanding x = Check.loaded("C110400z9900995z9900994z9900991s30020910w0");
        int[][] due = {{0, 0, 0}, {0, 1, 2}, {0, 19, 20}, {0, 20, 21}, {0, 21, 23}, {0, 40, 42}, {0, 41, 44},
            {1, 24, 25}, {1, 25, 26}, {1, 26, 28}, {1, 50, 52}, {1, 51, 54}, {1, 75, 78}, {1, 76, 80}, {2, 1, 2},
            {2, 99, 100}};
        for (int[] row : due) {
            Check.same(row[1] + " units in zone " + row[0], x.needs(row[0], row[1]), row[2]);
        }
        x.take(0, 300);
        x.send(0);
        x.pass(1);
        Check.same("20 units of slack 5, exactly 1 more", x.ship(0, 4), 279);
        CableLanding y = Check.loaded("C110400z2100995s30020910s30001920w0");
        y.take(0, 300);
        y.send(0);
        y.pass(2);
        Check.same("then the one that is left, rounded up", y.ship(0, 4), 277);
    }

    private static void eachDayByItself() {
        CableLanding slow = Check.loaded("C110100z2000995s05010910w0");
        slow.take(0, 50);
        slow.send(0);
        slow.pass(2);
        Check.same("10 units and 10 units", slow.ship(0, 4), 28);
        CableLanding fast = Check.loaded("C110100z2000995s05020910w0");
        fast.take(0, 50);
        fast.send(0);
        fast.pass(1);
        Check.same("20 units", fast.ship(0, 4), 29);
    }

    // ---- ships

    private static void oneShipAndFour() {
        CableLanding one = new CableLanding();
        Check.same("S", one.about(1), 1);
        Check.noZone("a second ship", () -> one.ship(1, 0));
        CableLanding four = Check.loaded(FOUR_SHIPS);
        Check.same("S", four.about(1), 4);
        Check.same("the first ship", four.ship(0, 3), 10);
        Check.same("the fourth ship", four.ship(3, 3), 40);
        Check.noZone("a fifth ship", () -> four.ship(4, 0));
        four.take(3, 10);
        four.send(3);
        Check.same("the fourth one lays", four.pass(1), 1);
        Check.same("at the front", four.about(8), 3);
    }

    private static void capacities() {
        CableLanding x = Check.loaded("C113000z9900990s01001910s99901920w0");
        Check.notNow("11 in 10", () -> x.take(0, 11));
        Check.same("10 in 10", x.take(0, 10), 10);
        Check.notNow("one more", () -> x.take(0, 1));
        Check.same("999 in 999", x.take(1, 999), 999);
        Check.notNow("one more", () -> x.take(1, 1));
    }

    private static void speeds() {
        CableLanding x = Check.loaded("C110100z9900990s05001910s05020920w0");
        x.take(0, 50);
        x.take(1, 50);
        x.send(0);
        Check.same("speed 1", x.pass(1), 1);
        x.recall(0);
        x.send(1);
        x.pass(1);
        Check.same("speed 20", x.pass(1), 20);
    }

    private static void wavesOfShips() {
        int[][] due = {{1, 0, 0}, {1, 1, 0}, {1, 2, 3}, {8, 8, 0}, {8, 9, 3}, {9, 9, 0}};
        for (int[] row : due) {
            CableLanding x = Check.loaded("C110100z9900990s05001" + row[0] + "10w" + row[1]);
            x.take(0, 50);
            x.send(0);
            Check.same("a ship for " + row[0] + " in waves " + row[1], x.pass(1), row[2] == 0 ? 1 : 0);
            Check.same("its reason", x.about(9), row[2]);
        }
    }

    private static void rates() {
        CableLanding x = Check.loaded("C110100z9900990s05001901s05001999w0");
        x.send(0);
        x.pass(1);
        Check.same("rate 1", x.account(4), 1);
        x.undo();
        x.undo();
        x.send(1);
        x.pass(1);
        Check.same("rate 99", x.account(4), 99);
    }

    private static void shipsAtFirst() {
        CableLanding x = Check.loaded(FOUR_SHIPS);
        for (int s = 0; s < 4; s++) {
            Check.same("cable aboard of " + s, x.ship(s, 4), 0);
            Check.same("place of " + s, x.ship(s, 5), 0);
        }
        Check.same("cable aboard of all", x.account(3), 0);
        Check.same("at the front", x.about(8), CableLanding.NONE);
    }

    private static void places() {
        CableLanding x = Check.loaded("C110400z0100990z9900990s01001910s01001920w0");
        x.take(0, 10);
        Check.same("in port", x.ship(0, 5), 0);
        x.send(0);
        Check.same("sails out", x.ship(0, 5), 1);
        x.pass(1);
        Check.same("at the front", x.ship(0, 5), 3);
        x.send(1);
        x.pass(2);
        Check.same("waits", x.ship(1, 5), 2);
        x.recall(0);
        Check.same("sails home", x.ship(0, 5), 4);
        x.pass(1);
        Check.same("still sails home", x.ship(0, 5), 4);
        x.pass(1);
        Check.same("in port again", x.ship(0, 5), 0);
    }

    private static void oneAtTheFront() {
        CableLanding x = Check.loaded(FOUR_SHIPS);
        for (int s = 0; s < 4; s++) {
            x.take(s, 10);
            x.send(s);
        }
        x.pass(1);
        for (int s = 0; s < 4; s++) {
            Check.same("place of " + s, x.ship(s, 5), s == 0 ? 3 : 2);
        }
        x.pass(5);
        Check.same("the same ship at the front", x.about(8), 0);
        Check.same("another one waits", x.ship(1, 5), 2);
    }

    // ---- teams, depot, weather

    /** A unit is laid on day 0 by ship 0, which is then called home; ship 1 comes to the front on day 1. */
    private static CableLanding beforeSplice(int teams, int days) {
        CableLanding x = Check.loaded("C" + teams + days + "0300z9900990s10001910s10001920w3");
        x.take(1, 50);
        x.take(0, 50);
        x.send(0);
        x.send(1);
        x.pass(1);
        x.recall(0);
        return x;
    }

    private static void teams() {
        for (int teams = 1; teams <= 3; teams++) {
            CableLanding x = beforeSplice(teams, 2);
            Check.same("T", x.about(2), teams);
            Check.same("all are free", x.about(13), teams);
            x.pass(1);
            Check.same("one is at the splice", x.about(13), teams - 1);
        }
    }

    private static void daysOfSplices() {
        for (int days = 1; days <= 3; days++) {
            CableLanding x = beforeSplice(2, days);
            Check.same("D", x.about(3), days);
            for (int day = 1; day <= days; day++) {
                Check.same("splices done ahead of day " + day, x.about(12), 0);
                Check.same("nothing is laid on day " + day, x.pass(1), 0);
                Check.same("one team is taken by it", x.about(13), 1);
            }
            Check.same("splices done", x.about(12), 1);
            Check.same("then the ship lays", x.pass(1), 1);
        }
    }

    private static void restOfTeams() {
        for (int days = 1; days <= 3; days++) {
            CableLanding x = beforeSplice(1, days);
            x.pass(days);
            Check.same("the splice is done", x.about(12), 1);
            Check.same("the team rests, D = " + days, x.about(13), 0);
            x.pass(1);
            Check.same("on the second day, too", x.about(13), 0);
            x.pass(1);
            Check.same("then it is free", x.about(13), 1);
        }
    }

    private static void depots() {
        CableLanding empty = Check.loaded("C110000z9900990s05001910w0");
        Check.same("an empty depot", empty.about(4), 0);
        Check.notNow("take from it", () -> empty.take(0, 1));
        Check.same("buy for it", empty.buy(1), 1);
        Check.same("take all of it", empty.take(0, 1), 1);
        Check.same("it is empty again", empty.about(4), 0);
        CableLanding full = Check.loaded("C119999z9900990s05001910w0");
        Check.same("a full depot", full.about(4), 9999);
        Check.notNow("buy for it", () -> full.buy(1));
        full.take(0, 1);
        Check.same("buy what was taken", full.buy(1), 9999);
    }

    private static void rowsOfWaves() {
        CableLanding one = Check.loaded("C110000z9900990s05001910w0");
        Check.same("the only entry", one.setWaves(0, 9), 0);
        Check.noRange("a second entry", () -> one.setWaves(1, 0));
        CableLanding thirty = Check.loaded("C110000z9900990s05001910w" + "5".repeat(29) + "7");
        Check.same("the entry 29", thirty.setWaves(29, 0), 7);
        Check.same("its waves then", thirty.waves(29), 0);
        Check.noRange("an entry 30", () -> thirty.setWaves(30, 0));
    }

    private static void behindTheLastEntry() {
        CableLanding x = Check.loaded("C110100z9900990s05001110w1" + "5".repeat(28) + "7");
        int[][] due = {{0, 1}, {1, 5}, {28, 5}, {29, 7}, {30, 1}, {31, 5}, {59, 7}, {60, 1}, {9989, 7}, {9990, 1},
            {9999, 5}};
        for (int[] row : due) {
            Check.same("waves of day " + row[0], x.waves(row[0]), row[1]);
        }
        x.take(0, 50);
        x.send(0);
        Check.same("laid on day 0", x.pass(1), 1);
        Check.same("laid on the days 1 to 29", x.pass(29), 0);
        Check.same("laid on day 30", x.pass(1), 1);
        CableLanding one = new CableLanding();
        Check.same("one entry for all days", one.waves(0) + one.waves(1) + one.waves(9999), 9);
        CableLanding two = Check.loaded("C110100z9900990s05001910w09");
        Check.same("an even day", two.waves(9998), 0);
        Check.same("an odd day", two.waves(9999), 9);
    }

    private static void newObject() {
        CableLanding x = new CableLanding();
        int[] about = {1, 1, 1, 2, 200, 0, 0, 0, -9, 0, 0, 0, 0, 1};
        for (int what = 0; what < about.length; what++) {
            Check.same("about " + what, x.about(what), about[what]);
        }
        int[] zone = {50, 0, 99, 5, 50};
        for (int what = 0; what < zone.length; what++) {
            Check.same("zone 0 " + what, x.zone(0, what), zone[what]);
        }
        int[] ship = {100, 10, 5, 20, 0, 0, 0, 0};
        for (int what = 0; what < ship.length; what++) {
            Check.same("ship 0 " + what, x.ship(0, what), ship[what]);
        }
        Check.same("the waves", x.waves(0), 3);
        Check.noRange("there is one entry", () -> x.setWaves(1, 3));
        Check.noZone("there is one zone", () -> x.zone(1, 0));
        Check.noZone("there is one ship", () -> x.ship(1, 0));
    }
}
