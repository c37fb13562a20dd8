/** The boundary cases of the promises 19 to 25: needs, reach, calmDays, ahead, doneAfter, bestShip, extension. */
public final class ForecastEdgesTest {
    private static final Class<IllegalArgumentException> RANGE = IllegalArgumentException.class;
    private static final Class<IndexOutOfBoundsException> NUMBER = IndexOutOfBoundsException.class;
    private static final int NONE = CableLanding.NONE;
    /** A calm day in each 5: the unit u is laid on day 5 * u - 5, so that 80 units are done after 396 days. */
    private static final String SLOW = "s09901110w09999";

    public static void main(String[] args) {
        needs();
        reach();
        calmDays();
        ahead();
        doneAfter();
        bestShip();
        extension();
        Sentences.end();
    }

    private static void needs() {
        Sentences.of("Promise 19: needs");
        Sentences.holds("Tells the cable that is needed", ForecastEdgesTest::needed);
        Sentences.holds("`z`: zone", ForecastEdgesTest::needed);
        Sentences.holds("`units`: 0 to 99", ForecastEdgesTest::needed);
        Sentences.holds("Returns the cable that is needed to lay so many units in it at once",
                ForecastEdgesTest::needed);
        Sentences.holds("Throws `IndexOutOfBoundsException` if there is no such zone",
                () -> Story.onlyFrom(0, 1, NUMBER, ForecastEdgesTest::underWay, (x, z) -> x.needs(z, 99)));
        Sentences.holds("Throws `IllegalArgumentException` if units is out of range",
                () -> Story.onlyFrom(0, 99, RANGE, ForecastEdgesTest::underWay, (x, units) -> x.needs(0, units)));
    }

    private static void reach() {
        Sentences.of("Promise 20: reach");
        Sentences.holds("Tells how much a ship could lay with its cable", ForecastEdgesTest::reached);
        Sentences.holds("`s`: ship", ForecastEdgesTest::reached);
        Sentences.holds("`z`: zone", ForecastEdgesTest::reached);
        Sentences.holds("the greatest number of units", ForecastEdgesTest::reachedAsNeeded);
        Sentences.holds("0 to the length of the zone", ForecastEdgesTest::reached);
        Sentences.holds("that can be laid in it at once with the cable aboard", ForecastEdgesTest::reached);
        Sentences.holds("Throws `IndexOutOfBoundsException` if there is no such ship or zone", () -> {
            Story.onlyFrom(0, 1, NUMBER, ForecastEdgesTest::underWay, (x, s) -> x.reach(s, 0));
            Story.onlyFrom(0, 1, NUMBER, ForecastEdgesTest::underWay, (x, z) -> x.reach(0, z));
        });
    }

    private static void calmDays() {
        Sentences.of("Promise 21: calmDays");
        Sentences.holds("Counts the days on which a ship could lay in a zone, by the permit and the waves",
                ForecastEdgesTest::calm);
        Sentences.holds("`s`: ship", ForecastEdgesTest::calm);
        Sentences.holds("`z`: zone", ForecastEdgesTest::calm);
        Sentences.holds("from the present one", ForecastEdgesTest::calmFromThePresentDay);
        Sentences.holds("(or from the first day of the permit, if that is later)", ForecastEdgesTest::calmFromTheFirst);
        Sentences.holds("to the last day of the permit", ForecastEdgesTest::calmToTheLast);
        Sentences.holds("with waves that are at most those of the ship", ForecastEdgesTest::calm);
        Sentences.holds("Throws `IndexOutOfBoundsException` if there is no such ship or zone", () -> {
            Story.onlyFrom(0, 1, NUMBER, ForecastEdgesTest::underWay, (x, s) -> x.calmDays(s, 0));
            Story.onlyFrom(0, 1, NUMBER, ForecastEdgesTest::underWay, (x, z) -> x.calmDays(0, z));
        });
    }

    private static void ahead() {
        Sentences.of("Promise 22: ahead");
        Sentences.holds("Tells a number after days without other changes", ForecastEdgesTest::aheadAsPassed);
        Sentences.holds("`m`: number of days, 0 to 99", ForecastEdgesTest::aheadAsPassed);
        Sentences.holds("0: units laid in them; 1: the zone of the front then", ForecastEdgesTest::aheadToTheEnd);
        Sentences.holds("2: costs of days at sea in them; 3: costs of waiting in them",
                ForecastEdgesTest::aheadAsPassed);
        Sentences.holds("4: the reason of the last one of them (for m = 0 that of the last day now)",
                ForecastEdgesTest::aheadOfNoDay);
        Sentences.holds("Returns that number", ForecastEdgesTest::aheadAsPassed);
        Sentences.holds("Throws `IllegalArgumentException` if m or what is out of range", () -> {
            Story.onlyFrom(0, 99, RANGE, ForecastEdgesTest::underWay, (x, m) -> x.ahead(m, 4));
            Story.onlyFrom(0, 4, RANGE, ForecastEdgesTest::underWay, (x, what) -> x.ahead(99, what));
        });
    }

    private static void doneAfter() {
        Sentences.of("Promise 23: doneAfter");
        Sentences.holds("Tells when a zone is done", ForecastEdgesTest::doneSoon);
        Sentences.holds("`z`: zone", ForecastEdgesTest::doneSoon);
        Sentences.holds("the smallest number of days, 0 to 400, after which (without other changes) it is done",
                ForecastEdgesTest::doneAfter400);
        Sentences.holds("NONE if there is none", ForecastEdgesTest::neverDone);
        Sentences.holds("Throws `IndexOutOfBoundsException` if there is no such zone",
                () -> Story.onlyFrom(0, 1, NUMBER, ForecastEdgesTest::underWay, (x, z) -> x.doneAfter(z)));
    }

    private static void bestShip() {
        Sentences.of("Promise 24: bestShip");
        Sentences.holds("the ship is filled from the depot as far as both allow", ForecastEdgesTest::filled);
        Sentences.holds("and sent now; nothing else is done", ForecastEdgesTest::nothingElse);
        Sentences.holds("of the ships in port", ForecastEdgesTest::inPortOnly);
        Sentences.holds("the one with which the most is laid in the next 60 days", ForecastEdgesTest::sixtyDays);
        Sentences.holds("among several the one with the smallest costs of days at sea in them",
                ForecastEdgesTest::smallestCosts);
        Sentences.holds("then the one with the smallest number", ForecastEdgesTest::smallestNumber);
        Sentences.holds("NONE if no ship is in port or the route is finished", ForecastEdgesTest::noShipToBeSent);
    }

    private static void extension() {
        Sentences.of("Promise 25: extension");
        Sentences.holds("Finds the extension that is needed for a zone", ForecastEdgesTest::extensionsAsTried);
        Sentences.holds("`z`: zone", ForecastEdgesTest::extensionsAsTried);
        Sentences.holds("Returns the smallest number of days, 0 to 99", ForecastEdgesTest::noneTo99);
        Sentences.holds("(its last day not later than 999)", ForecastEdgesTest::to999);
        Sentences.holds("so that the zone is done within 400 days without other changes", ForecastEdgesTest::within400);
        Sentences.holds("NONE if there is none", ForecastEdgesTest::noExtensionHelps);
        Sentences.holds("Throws `IndexOutOfBoundsException` if there is no such zone",
                () -> Story.onlyFrom(0, 1, NUMBER, ForecastEdgesTest::underWay, (x, z) -> x.extension(z)));
    }

    // ---- the states that are gone through

    private static CableLanding sent(String text, int... units) {
        CableLanding x = Check.loaded(text);
        for (int s = 0; s < units.length; s++) {
            if (units[s] > 0) {
                x.take(s, units[s]);
            }
            x.send(s);
        }
        return x;
    }

    /** Ship 0 at the front of zone 0, ship 1 waiting with cable, and all reasons still to come. */
    private static CableLanding underWay() {
        CableLanding x = sent("C120300z2003500z2000600s02005410s03005920w3545", 20, 25);
        x.pass(1);
        return x;
    }

    private static CableLanding finished() {
        CableLanding x = sent("C110300z0100990s05001910s05001920w0", 5);
        x.pass(3);
        return x;
    }

    // ---- needs, reach, calmDays

    private static void needed() {
        for (int slack = 0; slack <= 9; slack++) {
            CableLanding x = Check.loaded("C110000z010000" + slack + "z010000" + (9 - slack) + "s01001101w0");
            for (int units = 0; units <= 99; units++) {
                int whole = 0;
                while (whole * 100 < units * slack) {
                    whole++;
                }
                Check.same(units + " units with the slack " + slack, x.needs(0, units), units + whole);
            }
            Check.same("99 units in the other zone", x.needs(1, 99), slack == 9 ? 99 : 99 + 9 - slack);
        }
    }

    private static void reached() {
        CableLanding x = Check.loaded("C110300z2000990z9900999z2000995s15005910s10005910w0");
        int[][] due = {{0, 0, 0, 0}, {1, 1, 0, 0}, {2, 2, 1, 1}, {12, 12, 11, 11}, {13, 13, 11, 12}, {19, 19, 17, 18},
            {20, 20, 18, 19}, {21, 20, 19, 20}, {22, 20, 20, 20}, {107, 20, 98, 20}, {108, 20, 99, 20},
            {109, 20, 99, 20}, {150, 20, 99, 20}};
        int aboard = 0;
        for (int[] row : due) {
            if (row[0] > aboard) {
                aboard = x.take(0, row[0] - aboard);
            }
            for (int z = 0; z < 3; z++) {
                Check.same("with " + aboard + " in zone " + z, x.reach(0, z), row[1 + z]);
            }
        }
        Check.same("an empty ship", x.reach(1, 1), 0);
        x.send(0);
        x.pass(3);
        Check.same("what is left of the zone does not count", x.reach(0, 0), 20);
    }

    private static void reachedAsNeeded() {
        for (int slack = 0; slack <= 9; slack++) {
            CableLanding x = Check.loaded("C110300z990099" + slack + "s15005910w0");
            for (int aboard = 1; aboard <= 110; aboard++) {
                x.take(0, 1);
                int units = x.reach(0, 0);
                Check.isTrue("it is enough", x.needs(0, units) <= aboard);
                Check.isTrue("it is not enough for one more", units == 99 || x.needs(0, units + 1) > aboard);
            }
        }
    }

    private static void calm() {
        CableLanding x = Check.loaded("C110300z2000990z2010100s05005110s05005510s05005910w012569");
        int[] due = {34, 68, 100};
        for (int s = 0; s < 3; s++) {
            Check.same("ship " + s, x.calmDays(s, 0), due[s]);
        }
        // Day 10 has the waves 6.
        Check.same("one day, too rough", x.calmDays(1, 1), 0);
        Check.same("one day", x.calmDays(2, 1), 1);
        x.setWaves(4, 5);
        Check.same("one day, just calm enough", x.calmDays(1, 1), 1);
        x.take(0, 5);
        x.send(0);
        Check.same("where the ship is does not count", x.calmDays(0, 0), 34);
    }

    private static void calmFromThePresentDay() {
        CableLanding x = Check.loaded("C110300z2003070s05005910w0");
        x.pass(2);
        Check.same("a day ahead of the first one", x.calmDays(0, 0), 5);
        x.pass(1);
        Check.same("on the first day", x.calmDays(0, 0), 5);
        x.pass(1);
        Check.same("on the second day", x.calmDays(0, 0), 4);
        x.pass(3);
        Check.same("on the last day", x.calmDays(0, 0), 1);
        x.pass(1);
        Check.same("a day behind the last one", x.calmDays(0, 0), 0);
        x.pass(99);
        Check.same("long behind it", x.calmDays(0, 0), 0);
    }

    private static void calmFromTheFirst() {
        CableLanding x = Check.loaded("C110300z2005990z2099990s05005110w9");
        Check.same("no calm day", x.calmDays(0, 0), 0);
        x.setWaves(0, 1);
        Check.same("the days 5 to 99", x.calmDays(0, 0), 95);
        Check.same("day 99 alone", x.calmDays(0, 1), 1);
        CableLanding y = Check.loaded("C110300z2005070s05005110w99999099");
        Check.same("day 5, the first one", y.calmDays(0, 0), 1);
        y.setWaves(5, 9);
        y.setWaves(4, 0);
        Check.same("day 4 is too soon", y.calmDays(0, 0), 0);
    }

    private static void calmToTheLast() {
        CableLanding x = Check.loaded("C110300z2005070s05005110w9999999099");
        Check.same("day 7, the last one", x.calmDays(0, 0), 1);
        x.setWaves(7, 9);
        x.setWaves(8, 0);
        Check.same("day 8 is too late", x.calmDays(0, 0), 0);
        x.extend(0, 1);
        Check.same("day 8 with an extension", x.calmDays(0, 0), 1);
        CableLanding y = Check.loaded("C110300z2099990s05005910w0");
        for (int i = 0; i < 9; i++) {
            y.extend(0, 99);
        }
        y.extend(0, 9);
        Check.same("the days 99 to 999", y.calmDays(0, 0), 901);
    }

    // ---- ahead, doneAfter

    private static void aheadAsPassed() {
        for (int m : new int[] {1, 2, 3, 4, 5, 8, 13, 20, 21, 50, 98, 99}) {
            CableLanding x = underWay();
            int[] told = new int[5];
            for (int what = 0; what < 5; what++) {
                told[what] = x.ahead(m, what);
            }
            int atSea = x.account(4);
            int waiting = x.account(5);
            Check.same("units in " + m, told[0], x.pass(m));
            Check.same("front after " + m, told[1], x.about(6));
            Check.same("costs in " + m, told[2], x.account(4) - atSea);
            Check.same("waiting in " + m, told[3], x.account(5) - waiting);
            Check.same("reason after " + m, told[4], x.about(9));
        }
    }

    private static void aheadToTheEnd() {
        CableLanding x = sent("C110300z0500990z0500990s05001910w0", 50);
        int[][] due = {{0, 0, 0}, {4, 4, 0}, {5, 5, 1}, {9, 9, 1}, {10, 10, 2}, {11, 10, 2}, {99, 10, 2}};
        for (int[] row : due) {
            Check.same("units in " + row[0], x.ahead(row[0], 0), row[1]);
            Check.same("front after " + row[0], x.ahead(row[0], 1), row[2]);
        }
        x.pass(7);
        Check.same("only what is laid from now on", x.ahead(99, 0), 3);
        Check.same("costs from now on, until it is in port", x.ahead(99, 2), 40);
    }

    private static void aheadOfNoDay() {
        CableLanding x = new CableLanding();
        Check.same("no day at all", x.ahead(0, 4), 0);
        x.pass(1);
        Check.same("the reason of the last day now", x.ahead(0, 4), 6);
        Check.same("no units", x.ahead(0, 0), 0);
        Check.same("no costs", x.ahead(0, 2) + x.ahead(0, 3), 0);
        x.take(0, 100);
        x.send(0);
        Check.same("still that of the last day", x.ahead(0, 4), 6);
        Check.same("that of the next one", x.ahead(1, 4), 0);
        Check.same("the front now", finished().ahead(0, 1), 1);
    }

    private static void doneSoon() {
        CableLanding x = sent("C110300z0500990z0500990s05001910w0", 50);
        Check.same("zone 0", x.doneAfter(0), 5);
        Check.same("zone 1", x.doneAfter(1), 10);
        x.pass(4);
        Check.same("zone 0, a day ahead", x.doneAfter(0), 1);
        x.pass(1);
        Check.same("zone 0, done", x.doneAfter(0), 0);
        Check.same("zone 1", x.doneAfter(1), 5);
        x.pass(5);
        Check.same("both, done", x.doneAfter(0) + x.doneAfter(1), 0);
        x.pass(99);
        Check.same("done long ago", x.doneAfter(1), 0);
    }

    /** A zone whose last unit is laid on day 400, with a permit up to the day that is told. */
    private static CableLanding longWay(int last) {
        CableLanding x = Check.loaded("C110300z8100990" + SLOW);
        for (int left = last - 99; left > 0; left -= 99) {
            x.extend(0, Math.min(99, left));
        }
        x.take(0, 99);
        x.send(0);
        return x;
    }

    private static void doneAfter400() {
        CableLanding x = longWay(999);
        Check.same("after 401 days", x.doneAfter(0), NONE);
        x.pass(1);
        Check.same("after 400 days", x.doneAfter(0), 400);
        x.pass(1);
        Check.same("after 399 days", x.doneAfter(0), 399);
        x.pass(99);
        Check.same("after 300 days", x.doneAfter(0), 300);
        CableLanding y = longWay(399);
        y.pass(1);
        Check.same("the permit ends a day too soon", y.doneAfter(0), NONE);
        CableLanding z = longWay(400);
        z.pass(1);
        Check.same("the permit ends on the last day", z.doneAfter(0), 400);
    }

    private static void neverDone() {
        Check.same("without a ship", new CableLanding().doneAfter(0), NONE);
        CableLanding x = sent("C110300z0500990z0500030z0500990s05001910w0", 50);
        Check.same("zone 0 is done on day 4", x.doneAfter(0), 5);
        Check.same("zone 1 is over by then", x.doneAfter(1), NONE);
        Check.same("so is all behind it", x.doneAfter(2), NONE);
        CableLanding y = sent("C110300z0500990s05001910w0", 4);
        Check.same("a unit is lacking", y.doneAfter(0), NONE);
    }

    // ---- bestShip

    private static int best(String text) {
        return Check.loaded(text).bestShip();
    }

    private static void filled() {
        Check.same("to its capacity", best("C110300z9900990s02005901s03005999w0"), 1);
        Check.same("the depot ends it, so both lay the same", best("C110020z9900990s02005901s03005999w0"), 0);
        Check.same("an empty depot", best("C110000z9900990s02005902s03005901w0"), 1);
        CableLanding x = Check.loaded("C110040z9900990s05005901s05005999w0");
        x.take(1, 20);
        // 20 are left in the depot: ship 0 lays 20, ship 1 has 40.
        Check.same("what is aboard counts, too", x.bestShip(), 1);
        CableLanding y = Check.loaded("C110999z9900990s02005901s03005999w0");
        y.take(1, 30);
        Check.same("a ship that is full already", y.bestShip(), 1);
        // Filled beyond its capacity, ship 0 would lay as much as ship 1.
        CableLanding z = Check.loaded("C110999z2000990s01201901s01401901w0");
        z.take(0, 8);
        Check.same("not beyond the room that is left", z.bestShip(), 1);
    }

    private static void nothingElse() {
        CableLanding x = sent("C110300z9901991s05005910s01005920s01005920w0", 50);
        // Ship 0 is at the front until it is empty; the others would wait for it.
        Check.same("the smaller number", x.bestShip(), 1);
        x.take(1, 1);
        Check.same("filling makes up for it", x.bestShip(), 1);
        Check.same("no ship has been sent", x.ship(1, 5) + x.ship(2, 5), 0);
        Check.same("the depot", x.about(4), 249);
        Story.changesNothing("bestShip", ForecastEdgesTest::inPort, y -> y.bestShip());
    }

    private static CableLanding inPort() {
        return Check.loaded("C120300z2003500z2000600s02005410s03005920w3545");
    }

    private static void inPortOnly() {
        String text = "C110300z9900990s05005901s04005902s03005903w0";
        Check.same("all in port", best(text), 0);
        CableLanding x = Check.loaded(text);
        x.send(0);
        Check.same("ship 0 sails out", x.bestShip(), 1);
        x.pass(1);
        Check.same("ship 0, empty, sails home", x.bestShip(), 1);
        x.pass(1);
        Check.same("ship 0 in port again", x.bestShip(), 0);
        x.take(0, 50);
        x.send(0);
        x.take(1, 40);
        x.send(1);
        x.pass(1);
        Check.same("ship 0 at the front, ship 1 waits", x.bestShip(), 2);
        x.recall(1);
        Check.same("ship 1 sails home", x.bestShip(), 2);
        x.pass(1);
        Check.same("ship 1 in port again", x.bestShip(), 1);
    }

    private static void sixtyDays() {
        // Each lays a unit a day from day 0 on: the unit 60 on day 59, the last one of the 60 days.
        Check.same("60 units beside 59", best("C110999z9900990s05901901s06001999w0"), 1);
        Check.same("60 units beside 61, the same in 60 days", best("C110999z9900990s06001901s06101901w0"), 0);
        Check.same("61 units beside 60, but dearer", best("C110999z9900990s06101902s06001901w0"), 1);
        // Zone 0 opens on day 59: one unit can be laid; on day 60: none.
        Check.same("laid on day 59", best("C110999z9959990s05001901s05002999w0"), 1);
        Check.same("laid on day 60 only", best("C110999z9960990s05001901s05002999w0"), 0);
        CableLanding x = Check.loaded("C110999z9970990s05001901s05002999w0");
        x.pass(10);
        Check.same("not within the next 60 days", x.bestShip(), 0);
        x.pass(1);
        Check.same("on the last one of them", x.bestShip(), 1);
    }

    private static void smallestCosts() {
        Check.same("the second one is cheaper by one", best("C110999z2000990s02005902s02005901w0"), 1);
        Check.same("the first one is cheaper by one", best("C110999z2000990s02005901s02005902w0"), 0);
        // 20 units: 4 days for the rate 50, 10 days for the rate 20; each is in port on the day behind.
        Check.same("the same in all", best("C110999z2000990s02005950s02002920w0"), 0);
        Check.same("a faster one that is dearer a day", best("C110999z2000990s02002920s02005949w0"), 1);
        // What was paid before does not make a difference.
        CableLanding x = Check.loaded("C110999z2000990s02005902s02005901w0");
        x.send(0);
        x.pass(2);
        Check.same("behind other costs", x.bestShip(), 1);
        Check.same("more is laid, whatever it costs", best("C110999z2000990s01905901s02001999w0"), 1);
    }

    private static void smallestNumber() {
        Check.same("four alike", best("C110999z2000990" + "s02005901".repeat(4) + "w0"), 0);
        Check.same("the last three alike", best("C110999z2000990s01005901" + "s02005901".repeat(3) + "w0"), 1);
        Check.same("nothing is laid by any", best("C110999z2000990" + "s02005101".repeat(4) + "w9"), 0);
        CableLanding x = Check.loaded("C110999z2000990" + "s02005901".repeat(4) + "w0");
        x.send(0);
        Check.same("the smallest one in port", x.bestShip(), 1);
    }

    private static void noShipToBeSent() {
        CableLanding x = new CableLanding();
        Check.same("in port", x.bestShip(), 0);
        x.send(0);
        Check.same("sails out", x.bestShip(), NONE);
        x.pass(1);
        Check.same("sails home", x.bestShip(), NONE);
        x.pass(1);
        Check.same("in port again", x.bestShip(), 0);
        CableLanding y = finished();
        Check.same("ships are in port", y.ship(0, 5) + y.ship(1, 5), 0);
        Check.same("the route is finished", y.bestShip(), NONE);
        CableLanding z = Check.loaded("C110000z9900990s05005101w9");
        Check.same("nothing to be laid, but a ship to be sent", z.bestShip(), 0);
    }

    // ---- extension

    private static int tried(CableLanding x, int z) {
        for (int days = 0; days <= 99; days++) {
            if (days > 0 && x.zone(z, 2) + days > 999) {
                return NONE;
            }
            if (days > 0) {
                x.extend(z, days);
            }
            int done = x.doneAfter(z);
            if (days > 0) {
                x.undo();
            }
            if (done != NONE) {
                return days;
            }
        }
        return NONE;
    }

    private static void extensionsAsTried() {
        for (int last = 0; last <= 40; last++) {
            String text = String.format("C120600z1500%02d3z0905%02d5s04002325s05003220w21504", last, Math.max(5, last));
            for (int z = 0; z < 2; z++) {
                CableLanding x = sent(text, 40, 50);
                Check.same("zone " + z + ", last day " + last, x.extension(z), tried(x, z));
            }
        }
        Story.changesNothing("extension", ForecastEdgesTest::underWay, x -> x.extension(0));
    }

    /** One unit, whose permit is over after day 0, and a ship that is there on day 0 in waves that are too high. */
    private static CableLanding calmOn(int day) {
        CableLanding x = sent("C110300z0100000s09905110w9", 1);
        for (int left = day; left > 0; left -= 99) {
            x.pass(Math.min(99, left));
        }
        x.setWaves(0, 0);
        return x;
    }

    private static void noneTo99() {
        Check.same("on day 0 none is needed", calmOn(0).extension(0), 0);
        for (int day : new int[] {1, 2, 50, 98, 99}) {
            Check.same("to day " + day, calmOn(day).extension(0), day);
        }
        Check.same("100 days are too many", calmOn(100).extension(0), NONE);
        CableLanding x = calmOn(10);
        x.extend(0, 9);
        Check.same("a day less than is needed", x.extension(0), 1);
        x.extend(0, 1);
        Check.same("just what is needed", x.extension(0), 0);
        x.pass(1);
        Check.same("the zone is done", x.extension(0), 0);
        x.pass(99);
        Check.same("done, and the permit long over", x.extension(0), 0);
    }

    private static CableLanding lastDay(int last, int day) {
        CableLanding x = calmOn(day);
        for (int left = last; left > 0; left -= 99) {
            x.extend(0, Math.min(99, left));
        }
        return x;
    }

    private static void to999() {
        Check.same("from 990 to 999", lastDay(990, 999).extension(0), 9);
        Check.same("not from 990 to 1000", lastDay(990, 1000).extension(0), NONE);
        Check.same("from 900 to 999", lastDay(900, 999).extension(0), 99);
        Check.same("not from 899 to 999", lastDay(899, 999).extension(0), NONE);
        Check.same("from 899 to 998", lastDay(899, 998).extension(0), 99);
        Check.same("from 998 to 999", lastDay(998, 999).extension(0), 1);
        Check.same("999 is enough", lastDay(999, 999).extension(0), 0);
        Check.same("999 is the end", lastDay(999, 1000).extension(0), NONE);
    }

    private static void within400() {
        CableLanding x = longWay(396);
        Check.same("the last unit is laid in the day 401 from now", x.extension(0), NONE);
        x.pass(1);
        Check.same("in the day 400 from now", x.extension(0), 4);
        x.extend(0, 3);
        Check.same("with a day less", x.extension(0), 1);
        x.extend(0, 1);
        Check.same("with none", x.extension(0), 0);
    }

    private static void noExtensionHelps() {
        Check.same("without a ship", new CableLanding().extension(0), NONE);
        CableLanding x = sent("C110300z0500000z0500990s05001910w0", 50);
        Check.same("zone 0 by 4 days", x.extension(0), 4);
        Check.same("zone 1 lies behind zone 0", x.extension(1), NONE);
        CableLanding y = sent("C110300z0500000s05001910w0", 4);
        Check.same("a unit is lacking", y.extension(0), NONE);
        CableLanding z = sent("C110300z0500000s05001110w9", 50);
        Check.same("the sea is never calm", z.extension(0), NONE);
    }
}
