/** Promises 22 to 25: ahead, doneAfter, bestShip, extension. */
public final class ForecastTest {
    public static void main(String[] args) {
        ahead();
        aheadIsWhatComes();
        doneAfter();
        doneAfterLong();
        bestShip();
        bestShipBySmallerThings();
        bestShipOfNone();
        extension();
        extensionAtItsBounds();
        extensionIsTheSmallestThatHelps();
        Check.end();
    }

    private static void ahead() {
        CableLanding x = new CableLanding();
        x.take(0, 60);
        x.send(0);
        int[][] due = {{0, 0, 0}, {0, 1, 0}, {0, 2, 0}, {0, 3, 0}, {0, 4, 0}, {1, 0, 10}, {4, 0, 40}, {4, 1, 0},
            {5, 0, 50}, {5, 1, 1}, {5, 2, 100}, {99, 0, 50}, {99, 1, 1}, {99, 2, 100}, {99, 3, 0}, {99, 4, 0}};
        String before = Check.all(x);
        for (int[] row : due) {
            Check.same("ahead " + row[0] + " " + row[1], x.ahead(row[0], row[1]), row[2]);
        }
        Check.unchanged("ahead", x, before);
        Check.same("ahead is no action", x.undo(), 1);
        Check.noRange("ahead(-1, 0)", () -> x.ahead(-1, 0));
        Check.noRange("ahead(100, 0)", () -> x.ahead(100, 0));
        Check.noRange("ahead(0, -1)", () -> x.ahead(0, -1));
        Check.noRange("ahead(0, 5)", () -> x.ahead(0, 5));
        Check.noRange("ahead of the greatest int", () -> x.ahead(Integer.MAX_VALUE, 0));
    }

    private static void aheadIsWhatComes() {
        CableLanding x = Check.loaded("C120300z2003090z2000990s02005410s03005920w3545");
        Check.same("the reason of no day", x.ahead(0, 4), 0);
        x.pass(1);
        Check.same("the reason of the last day now", x.ahead(0, 4), 6);
        x.take(0, 20);
        x.take(1, 30);
        x.send(0);
        x.send(1);
        whatComes(x);
        x.pass(9);
        Check.isTrue("something is laid", x.account(1) > 0);
        Check.isTrue("somebody has waited", x.account(5) > 0);
        whatComes(x);
    }

    private static void whatComes(CableLanding x) {
        for (int m = 1; m <= 40; m += 3) {
            int[] told = new int[5];
            for (int what = 0; what < 5; what++) {
                told[what] = x.ahead(m, what);
            }
            int atSea = x.account(4);
            int waiting = x.account(5);
            Check.same("units, " + m, told[0], x.pass(m));
            Check.same("zone, " + m, told[1], x.about(6));
            Check.same("costs of days at sea, " + m, told[2], x.account(4) - atSea);
            Check.same("costs of waiting, " + m, told[3], x.account(5) - waiting);
            Check.same("reason, " + m, told[4], x.about(9));
            x.undo();
        }
    }

    private static void doneAfter() {
        CableLanding x = Check.loaded("C110300z1000990z1000990z1000000s09905910w0");
        Check.same("without a ship", x.doneAfter(0), CableLanding.NONE);
        x.take(0, 30);
        x.send(0);
        String before = Check.all(x);
        Check.same("zone 0", x.doneAfter(0), 2);
        Check.same("zone 1", x.doneAfter(1), 4);
        Check.same("zone 2, whose permit is over", x.doneAfter(2), CableLanding.NONE);
        Check.unchanged("doneAfter", x, before);
        x.pass(1);
        Check.same("zone 0 a day later", x.doneAfter(0), 1);
        x.pass(1);
        Check.same("zone 0 when it is done", x.doneAfter(0), 0);
        Check.same("zone 1 then", x.doneAfter(1), 2);
        Check.noZone("doneAfter(-1)", () -> x.doneAfter(-1));
        Check.noZone("doneAfter(3)", () -> x.doneAfter(3));
        Check.noZone("doneAfter of the smallest int", () -> x.doneAfter(Integer.MIN_VALUE));
    }

    private static void doneAfterLong() {
        // A day of calm in each 5 lets one unit be laid: the unit u is laid on day 5 * u - 5.
        CableLanding x = Check.loaded("C110300z8100990s09901110w09999");
        for (int i = 0; i < 4; i++) {
            x.extend(0, 99);
        }
        x.take(0, 99);
        x.send(0);
        Check.same("81 units", x.doneAfter(0), CableLanding.NONE);
        x.pass(1);
        Check.same("80 units, done on day 400, from day 1", x.doneAfter(0), 400);
        x.pass(5);
        Check.same("from day 6", x.doneAfter(0), 395);
    }

    private static void bestShip() {
        CableLanding x = Check.loaded("C110300z9900990s02005910s05005920s04005905w0");
        String before = Check.all(x);
        Check.same("the one with the most cable", x.bestShip(), 1);
        Check.unchanged("bestShip", x, before);
        x.take(1, 10);
        Check.same("what is aboard counts", x.bestShip(), 1);
        x.send(1);
        Check.same("of the ships in port", x.bestShip(), 2);
        x.recall(waitAtFront(x, 1));
        x.send(2);
        Check.same("the other one sails home", x.bestShip(), 0);
    }

    private static int waitAtFront(CableLanding x, int s) {
        x.pass(1);
        Check.same("ship " + s + " at the front", x.about(8), s);
        return s;
    }

    private static void bestShipBySmallerThings() {
        Check.same("the depot bounds both, the smaller costs",
                Check.loaded("C110030z9900990s05005920s04005910w0").bestShip(), 1);
        Check.same("the same costs, the smallest number",
                Check.loaded("C110030z9900990s04005910s04005910w0").bestShip(), 0);
        Check.same("more is laid by the faster one, ahead of costs",
                Check.loaded("C110999z9900400s99902101s99903999w0").bestShip(), 1);
        // Both lay a unit a day from day 0 on, until the unit 60 on day 59 for one, the unit 61 on day 60 for the other.
        Check.same("only 60 days count, and the costs in them",
                Check.loaded("C110999z9900990s06001901s99901901w0").bestShip(), 0);
        Check.same("all 60 days count",
                Check.loaded("C110999z9900990s05901901s99901901w0").bestShip(), 1);
        // Full, the first one lays 12 units for 13 days at sea; with more than full, it would lay all 20.
        CableLanding x = Check.loaded("C110999z2000990s01201901s01401901w0");
        x.take(0, 8);
        Check.same("no ship gets more than its room", x.bestShip(), 1);
        Check.same("nothing is to be laid, the smaller costs",
                Check.loaded("C110000z9900990s05005920s04005910w0").bestShip(), 1);
    }

    private static void bestShipOfNone() {
        CableLanding x = Check.loaded("C110300z0500990s02005910s05005920w0");
        x.send(0);
        Check.same("the other one is in port", x.bestShip(), 1);
        x.send(1);
        Check.same("no ship in port", x.bestShip(), CableLanding.NONE);
        CableLanding y = Check.loaded("C110300z0500990s02005910s05005920w0");
        y.take(0, 5);
        y.send(0);
        y.pass(1);
        Check.same("the route is finished", y.bestShip(), CableLanding.NONE);
    }

    private static void extension() {
        CableLanding x = Check.loaded("C110300z2000010z1000030s09905910w0");
        Check.same("without a ship", x.extension(0), CableLanding.NONE);
        x.take(0, 30);
        x.send(0);
        String before = Check.all(x);
        Check.same("zone 0 is done on day 3", x.extension(0), 2);
        Check.same("zone 1 waits for zone 0", x.extension(1), CableLanding.NONE);
        Check.unchanged("extension", x, before);
        x.extend(0, 1);
        Check.same("a day is still needed", x.extension(0), 1);
        x.extend(0, 1);
        Check.same("none is needed any more", x.extension(0), 0);
        Check.same("zone 1 is done on day 5", x.extension(1), 2);
        x.extend(1, 2);
        Check.same("nor in zone 1", x.extension(1), 0);
        x.pass(6);
        Check.same("a zone that is done", x.extension(0), 0);
        Check.same("the last zone", x.extension(1), 0);
        Check.noZone("extension(-1)", () -> x.extension(-1));
        Check.noZone("extension(2)", () -> x.extension(2));
        Check.noZone("extension of the greatest int", () -> x.extension(Integer.MAX_VALUE));
    }

    private static void extensionAtItsBounds() {
        // The only unit waits for the one calm day, 29: the permit of day 0 lacks 29 days; from day 1 on it is over.
        String late = "9".repeat(29) + "0";
        CableLanding x = Check.loaded("C110300z0100000s09905110w" + late);
        x.take(0, 1);
        x.send(0);
        Check.same("up to the calm day", x.extension(0), 29);
        x.pass(30);
        Check.same("up to the next one", x.extension(0), 59);
        x.pass(60);
        Check.same("up to the fourth one", x.extension(0), CableLanding.NONE);
        x.setWaves(9, 0);
        Check.same("99 days", x.extension(0), 99);
        x.setWaves(9, 9);
        x.setWaves(10, 0);
        Check.same("100 days", x.extension(0), CableLanding.NONE);
        CableLanding y = Check.loaded("C110300z0100990s09905110w9");
        for (int i = 0; i < 9; i++) {
            y.extend(0, 99);
        }
        y.pass(99);
        for (int i = 0; i < 9; i++) {
            y.pass(99);
        }
        y.pass(2);
        y.take(0, 1);
        y.send(0);
        y.setWaves(0, 0);
        Check.same("the last day is 990, the present one is 992", y.extension(0), 2);
        y.setWaves(0, 9);
        y.pass(7);
        y.setWaves(0, 0);
        Check.same("the present day", y.about(5), 999);
        Check.same("up to 999", y.extension(0), 9);
        y.setWaves(0, 9);
        y.pass(1);
        y.setWaves(0, 0);
        Check.same("not up to 1000", y.extension(0), CableLanding.NONE);
    }

    private static void extensionIsTheSmallestThatHelps() {
        for (int waves = 0; waves < 200; waves++) {
            for (int z = 0; z < 3; z++) {
                CableLanding x = Check.loaded("C120600z3000" + (10 + waves % 30) + "3z2500605z1003204s04004325s0500722"
                        + "0s02006915w" + waves + "1" + (waves * 7) + "04");
                for (int s = 0; s < 3; s++) {
                    x.take(s, x.ship(s, 0));
                    x.send(s);
                }
                Check.same("extension " + z + " with waves " + waves, x.extension(z), triedExtension(x, z));
            }
        }
    }

    private static int triedExtension(CableLanding x, int z) {
        if (x.doneAfter(z) != CableLanding.NONE) {
            return 0;
        }
        for (int days = 1; days <= 99; days++) {
            x.extend(z, days);
            int done = x.doneAfter(z);
            x.undo();
            if (done != CableLanding.NONE) {
                return days;
            }
        }
        return CableLanding.NONE;
    }
}
