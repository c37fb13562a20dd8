/** Promises 26 and 27: runScript, simulate. */
public final class ScriptTest {
    private static final int NONE = CableLanding.NONE;
    private static final String THREE_SHIPS = "C121500z9900994z1000990s15009930s99910520s01001110w32";

    public static void main(String[] args) {
        arguments();
        zerosBefore();
        take();
        sendAndRecall();
        extendPassBuy();
        asks();
        otherGroups();
        oneAfterTheOther();
        simulate();
        simulateShips();
        Check.end();
    }

    private static void script(CableLanding x, int n, long script, int due) {
        Check.same("runScript " + n + " " + script, x.runScript(n, script), due);
    }

    private static void arguments() {
        CableLanding x = new CableLanding();
        Check.noRange("n = 0", () -> x.runScript(0, 0));
        Check.noRange("n = -1", () -> x.runScript(-1, 50001));
        Check.noRange("n = 4", () -> x.runScript(4, 50001));
        Check.noRange("n of the greatest int", () -> x.runScript(Integer.MAX_VALUE, 50001));
        Check.noRange("script = -1", () -> x.runScript(1, -1));
        Check.noRange("the smallest long", () -> x.runScript(3, Long.MIN_VALUE));
        Check.noRange("the greatest long", () -> x.runScript(3, Long.MAX_VALUE));
        Check.noRange("6 digits", () -> x.runScript(1, 100000));
        Check.noRange("11 digits", () -> x.runScript(2, 10000000000L));
        Check.noRange("16 digits", () -> x.runScript(3, 1000000000000000L));
        script(x, 1, 99999, 0);
        script(x, 2, 9999999999L, 0);
        script(x, 3, 999999999999999L, 0);
        script(x, 3, 0, 0);
    }

    private static void zerosBefore() {
        CableLanding x = new CableLanding();
        // Written with fewer digits, the first group is 00000 and fails.
        script(x, 2, 50001, 0);
        script(x, 1, 50001, NONE);
        script(x, 3, 5000150001L, 0);
        script(x, 2, 5000150001L, NONE);
        script(x, 1, 9000, 0);
    }

    private static void take() {
        CableLanding x = Check.loaded(THREE_SHIPS);
        script(x, 1, 10150, NONE);
        script(x, 1, 10151, 0);
        script(x, 1, 11999, NONE);
        script(x, 1, 12010, NONE);
        script(x, 1, 12011, 0);
        script(x, 1, 10000, 0);
        script(x, 1, 13001, 0);
        script(x, 1, 19001, 0);
        script(x, 2, 1199910150L, NONE);
        script(x, 3, 115001150110001L, 1);
        script(x, 2, 2000010001L, 1);
        script(x, 2, 1000611001L, NONE);
        CableLanding y = Check.loaded("C110010z9900994s99910520w32");
        script(y, 1, 10010, NONE);
        script(y, 1, 10011, 0);
        script(y, 2, 1000910002L, 1);
    }

    private static void sendAndRecall() {
        CableLanding x = Check.loaded(THREE_SHIPS);
        script(x, 1, 20000, NONE);
        script(x, 1, 22000, NONE);
        script(x, 1, 23000, 0);
        script(x, 2, 2000020000L, 1);
        script(x, 1, 20100, 0);
        script(x, 1, 20010, 0);
        script(x, 1, 20001, 0);
        script(x, 1, 30000, 0);
        x.send(0);
        x.send(1);
        script(x, 1, 30000, 0);
        script(x, 2, 5000130000L, 1);
        x.pass(1);
        script(x, 1, 31000, NONE);
        script(x, 1, 30000, 0);
        script(x, 1, 31100, 0);
        script(x, 1, 31010, 0);
        script(x, 1, 31001, 0);
        script(x, 1, 33000, 0);
        script(x, 2, 3100031000L, 1);
    }

    private static void extendPassBuy() {
        CableLanding x = Check.loaded(THREE_SHIPS);
        script(x, 1, 40001, NONE);
        script(x, 1, 41099, NONE);
        script(x, 1, 40000, 0);
        script(x, 1, 42001, 0);
        script(x, 1, 40100, 0);
        script(x, 1, 40101, 0);
        for (int i = 0; i < 9; i++) {
            x.extend(0, 99);
        }
        script(x, 1, 40009, NONE);
        script(x, 1, 40010, 0);
        script(x, 2, 4000940001L, 1);
        script(x, 1, 50001, NONE);
        script(x, 1, 50099, NONE);
        script(x, 1, 50000, 0);
        script(x, 1, 51001, 0);
        script(x, 1, 50100, 0);
        script(x, 1, 60001, NONE);
        script(x, 1, 60999, NONE);
        script(x, 1, 60000, 0);
        script(x, 1, 61001, 0);
        script(Check.loaded("C119997z1000990s15009930w0"), 2, 6000160001L, NONE);
        script(Check.loaded("C119997z1000990s15009930w0"), 3, 600016000160001L, 2);
        script(Check.loaded("C119999z1000990s15009930w0"), 1, 60001, 0);
    }

    private static void asks() {
        CableLanding x = Check.loaded("C110100z1200990z0300990s09910910s09905920w0");
        script(x, 1, 70000, NONE);
        script(x, 1, 90000, NONE);
        script(x, 1, 90006, 0);
        script(x, 2, 5000190006L, NONE);
        x.take(0, 15);
        x.send(0);
        script(x, 1, 80001, NONE);
        script(x, 1, 80000, 0);
        script(x, 1, 81000, NONE);
        script(x, 1, 82000, 0);
        script(x, 1, 80011, 0);
        script(x, 1, 80101, 0);
        x.pass(1);
        script(x, 1, 70010, NONE);
        script(x, 1, 70009, 0);
        script(x, 1, 70011, 0);
        script(x, 1, 71010, 0);
        script(x, 1, 70110, 0);
        script(x, 1, 80003, NONE);
        script(x, 2, 5000171000L, NONE);
        x.pass(2);
        script(x, 1, 72000, NONE);
        script(x, 1, 71000, 0);
        script(x, 1, 72001, 0);
        script(x, 1, 73000, 0);
        script(x, 1, 80004, NONE);
        script(x, 1, 80005, 0);
        script(x, 1, 21000, 0);
        script(x, 1, 91000, 0);
        script(x, 1, 90100, 0);
        script(x, 1, 90010, 0);
        CableLanding nine = Check.loaded("C110100" + "z0100990".repeat(9) + "s09910910w0");
        nine.take(0, 9);
        nine.send(0);
        nine.pass(9);
        script(nine, 1, 79000, NONE);
        script(nine, 1, 78000, 0);
    }

    private static void otherGroups() {
        CableLanding x = new CableLanding();
        script(x, 1, 0, 0);
        script(x, 1, 1, 0);
        script(x, 1, 5001, 0);
        script(x, 1, 9999, 0);
    }

    private static void oneAfterTheOther() {
        CableLanding x = Check.loaded(THREE_SHIPS);
        String before = Check.all(x);
        script(x, 3, 101002000050001L, NONE);
        script(x, 3, 101002000099999L, 2);
        script(x, 3, 101009999950001L, 1);
        script(x, 3, 999992000050001L, 0);
        Check.unchanged("a script", x, before);
        x.take(0, 100);
        script(x, 3, 200005000170009L, NONE);
        script(x, 3, 200005000370027L, NONE);
        script(x, 3, 200005000180003L, NONE);
        script(x, 3, 200005000190000L, NONE);
    }

    private static void simulate() {
        CableLanding x = new CableLanding();
        String before = Check.all(x);
        Check.noRange("m = 0", () -> x.simulate(0, 0));
        Check.noRange("m = -1", () -> x.simulate(5, -1));
        Check.noRange("m = 100", () -> x.simulate(0, 100));
        Check.noRange("m of the smallest int", () -> x.simulate(0, Integer.MIN_VALUE));
        long[] seeds = {0, 1, -1, 42, 6364136223846793005L, Long.MIN_VALUE, Long.MAX_VALUE, seedFor(0), seedFor(-1)};
        Check.same("x in the first round", seedFor(0) * 6364136223846793005L + 1442695040888963407L, 0);
        for (long seed : seeds) {
            for (int m = 1; m <= 99; m += 7) {
                Check.same("simulate " + seed + " " + m, x.simulate(seed, m), played(new CableLanding(), seed, m));
            }
        }
        Check.unchanged("simulate", x, before);
    }

    /** The seed with this x in the first round: 0 has the smallest r, -1 the greatest one. */
    private static long seedFor(long x) {
        long inverse = 1;
        for (int i = 0; i < 6; i++) {
            inverse = inverse * (2 - 6364136223846793005L * inverse);
        }
        return (x - 1442695040888963407L) * inverse;
    }

    private static void simulateShips() {
        String text = "C210900z9900990z9002993z4000999s06005410s02020930s10003802w31425096";
        for (long seed = -40; seed < 40; seed++) {
            int m = 10 + (int) (seed & 31);
            CableLanding x = Check.loaded(text);
            CableLanding y = Check.loaded(text);
            firstDays(x);
            firstDays(y);
            String before = Check.all(x);
            Check.same("simulate " + seed + " " + m, x.simulate(seed, m), played(y, seed, m));
            Check.unchanged("simulate", x, before);
            Check.same("simulate is no action", x.undo(), 2);
        }
    }

    private static void firstDays(CableLanding x) {
        x.take(0, 12);
        x.send(0);
        x.pass(2);
        Check.same("laid before", x.account(1), 10);
    }

    /** The rounds, played with the actions themselves. */
    private static int played(CableLanding y, long seed, int m) {
        int laid = 0;
        int entries = entriesOf(y);
        long x = seed;
        for (int i = 0; i < m; i++) {
            x = x * 6364136223846793005L + 1442695040888963407L;
            int r = (int) (x >>> 33);
            int s = r / 8 % y.about(1);
            if (r % 8 == 0) {
                y.setWaves(r / 64 % entries, r / 2048 % 10);
            } else if (r % 8 <= 2 && y.ship(s, 5) == 0 && y.about(6) < y.about(0)) {
                int units = Math.min(y.about(4), y.ship(s, 0) - y.ship(s, 4));
                if (units > 0) {
                    y.take(s, units);
                }
                y.send(s);
            }
            laid += y.pass(1);
        }
        return 1000 * laid + y.about(5);
    }

    private static int entriesOf(CableLanding y) {
        int entries = 0;
        boolean more = true;
        while (more && entries < 30) {
            try {
                y.setWaves(entries, y.waves(entries));
                y.undo();
                entries++;
            } catch (IllegalArgumentException e) {
                more = false;
            }
        }
        return entries;
    }
}
