import java.math.BigInteger;

/** The boundary cases of the promises 26 and 27: runScript, simulate. */
public final class ScriptEdgesTest {
    private static final Class<IllegalArgumentException> RANGE = IllegalArgumentException.class;
    private static final int NONE = CableLanding.NONE;
    private static final String TEXT = "C120300z2003500z2000600s02005410s05003920w3545";
    private static final long MULTIPLIER = 6364136223846793005L;
    private static final long ADDEND = 1442695040888963407L;

    public static void main(String[] args) {
        script();
        commands();
        simulate();
        Sentences.end();
    }

    private static void script() {
        Sentences.of("Promise 26: runScript");
        Sentences.holds("Runs a script on a copy of the state", ScriptEdgesTest::scriptsChangeNothing);
        Sentences.holds("A script has 1 to 3 commands", ScriptEdgesTest::oneToThree);
        Sentences.holds("each is a group of five decimal digits d1 to d5", ScriptEdgesTest::groupsOfFive);
        Sentences.holds("the first command is the highest group of the number", ScriptEdgesTest::highestFirst);
        Sentences.holds("(with zeros before it, if it has fewer digits)", ScriptEdgesTest::zerosBefore);
        Sentences.holds("xy and xyz are decimal numbers", ScriptEdgesTest::decimalNumbers);
        Sentences.holds("`n`: number of commands, 1 to 3", ScriptEdgesTest::oneToThree);
        Sentences.holds("`script`: the commands, a number of at most 5 * n digits (0 or more)",
                ScriptEdgesTest::digitsOfScripts);
        Sentences.holds("Returns the index, from 0, of the first command that fails; NONE if all succeed",
                ScriptEdgesTest::firstThatFails);
        Sentences.holds("Throws `IllegalArgumentException` if n is out of range",
                () -> Story.onlyFrom(1, 3, RANGE, ScriptEdgesTest::underWay, (x, n) -> x.runScript(n, 50001)));
        Sentences.holds("or if script is negative or has more than 5 * n digits", ScriptEdgesTest::scriptsOutOfRange);
    }

    private static void commands() {
        Sentences.holds("1 s x y z: loads xyz units onto ship s", ScriptEdgesTest::takes);
        Sentences.holds("2 s 0 0 0: sends ship s", ScriptEdgesTest::sends);
        Sentences.holds("3 s 0 0 0: calls ship s home", ScriptEdgesTest::recalls);
        Sentences.holds("4 z 0 x y: extends the permit of zone z by xy days", ScriptEdgesTest::extensions);
        Sentences.holds("5 0 0 x y: lets xy days pass (01 to 99)", ScriptEdgesTest::passes);
        Sentences.holds("6 0 x y z: buys xyz units", ScriptEdgesTest::buys);
        Sentences.holds("7 z 0 x y: succeeds if the front is in zone z (Z for finished) and xy units are laid there",
                ScriptEdgesTest::fronts);
        Sentences.holds("8 s 0 0 w: succeeds if ship s is at w (0 to 4)", ScriptEdgesTest::places);
        Sentences.holds("9 0 0 0 r: succeeds if the reason of the last day is r", ScriptEdgesTest::reasons);
        Sentences.holds("The commands 1 to 6 fail if the method with this effect would throw an exception",
                ScriptEdgesTest::commandsThatFail);
        Sentences.holds("commands with ships or zones that do not exist fail", ScriptEdgesTest::noSuchNumbers);
        Sentences.holds("and so does any other group", ScriptEdgesTest::allGroups);
        Sentences.holds("(also one with another digit where a 0 is written)", ScriptEdgesTest::otherDigits);
    }

    private static void simulate() {
        Sentences.of("Promise 27: simulate");
        Sentences.holds("Simulates m rounds on a copy of the state", ScriptEdgesTest::simulationsChangeNothing);
        Sentences.holds("A long x starts as the seed", ScriptEdgesTest::everySeed);
        Sentences.holds("(with long overflow)", ScriptEdgesTest::everySeed);
        Sentences.holds("r = (int) (x >>> 33) is computed", ScriptEdgesTest::bitsOfRounds);
        Sentences.holds("let s be the ship r / 8 % S", ScriptEdgesTest::shipsOfRounds);
        Sentences.holds("If r % 8 is 0, the entry r / 64 % W of the waves becomes r / 2048 % 10",
                ScriptEdgesTest::wavesOfRounds);
        Sentences.holds("If it is 1 or 2, and the ship is in port and the route is not finished",
                ScriptEdgesTest::kindsOfRounds);
        Sentences.holds("it is filled from the depot as far as both allow, and sent", ScriptEdgesTest::filledInRounds);
        Sentences.holds("Then a day passes", ScriptEdgesTest::daysOfRounds);
        Sentences.holds("`seed`: any long", ScriptEdgesTest::everySeed);
        Sentences.holds("`m`: number of rounds, 1 to 99", ScriptEdgesTest::daysOfRounds);
        Sentences.holds("Returns 1000 times the units that are laid in these rounds, plus the day at the end",
                ScriptEdgesTest::unitsAndDay);
        Sentences.holds("Throws `IllegalArgumentException` if m is out of range",
                () -> Story.onlyFrom(1, 99, RANGE, ScriptEdgesTest::underWay, (x, m) -> x.simulate(7, m)));
    }

    // ---- the states that are gone through

    /** Ship 0, full, at the front of zone 0, whose permit has not begun; ship 1, half full, in port. */
    private static CableLanding underWay() {
        CableLanding x = Check.loaded(TEXT);
        x.take(0, 20);
        x.take(1, 25);
        x.send(0);
        x.pass(1);
        return x;
    }

    private static void single(CableLanding x, int group, boolean succeeds) {
        Check.same("command " + group, x.runScript(1, group), succeeds ? NONE : 0);
    }

    // ---- the numbers of a script

    private static void scriptsChangeNothing() {
        long[] scripts = {116255000560999L, 300004009950099L, 500995009950099L, 210005000131000L, 500010000010001L};
        for (long script : scripts) {
            Story.changesNothing("script " + script, ScriptEdgesTest::underWay, x -> x.runScript(3, script));
        }
        CableLanding x = underWay();
        Check.same("each script begins anew", x.runScript(2, 1101010010L) + x.runScript(2, 1101010010L), 2);
    }

    private static void oneToThree() {
        CableLanding x = underWay();
        Check.same("one", x.runScript(1, 50001), NONE);
        Check.same("two", x.runScript(2, 5000150001L), NONE);
        Check.same("three", x.runScript(3, 500015000150001L), NONE);
        Check.noRange("none", () -> x.runScript(0, 0));
        Check.noRange("four", () -> x.runScript(4, 500015000150001L));
    }

    private static void groupsOfFive() {
        CableLanding x = underWay();
        // Day 1 comes next and day 3 is the first one of the permit; in waves 5, on the days 3 and 5, nothing is laid.
        Check.same("up to day 4", x.runScript(3, 500025000270005L), NONE);
        Check.same("up to day 3", x.runScript(3, 500025000170005L), 2);
        Check.same("up to day 6", x.runScript(3, 500025000470010L), NONE);
        Check.same("10 days", x.runScript(2, 5001071000L), NONE);
    }

    private static void highestFirst() {
        CableLanding x = underWay();
        Check.same("send, then ask", x.runScript(2, 2100081001L), NONE);
        Check.same("ask, then send", x.runScript(2, 8100121000L), 0);
        Check.same("ask, send, ask", x.runScript(3, 810002100081001L), NONE);
        Check.same("ask, ask, send", x.runScript(3, 810008100121000L), 1);
    }

    private static void zerosBefore() {
        CableLanding x = underWay();
        Check.same("one group for two", x.runScript(2, 50001), 0);
        Check.same("one group for three", x.runScript(3, 50001), 0);
        Check.same("two groups for three", x.runScript(3, 5000150001L), 0);
        Check.same("0 for three", x.runScript(3, 0), 0);
        Check.same("four digits", x.runScript(1, 9001), 0);
        Check.same("one digit", x.runScript(1, 5), 0);
        Check.same("nine digits", x.runScript(2, 500150001L), 0);
    }

    private static void digitsOfScripts() {
        CableLanding x = underWay();
        Check.same("0", x.runScript(1, 0), 0);
        Check.same("5 digits", x.runScript(1, 99999), 0);
        Check.same("the least one of 5", x.runScript(1, 10000), 0);
        Check.same("6 digits for two", x.runScript(2, 100000), 0);
        Check.same("10 digits", x.runScript(2, 9999999999L), 0);
        Check.same("11 digits for three", x.runScript(3, 10000000000L), 0);
        Check.same("15 digits", x.runScript(3, 999999999999999L), 0);
    }

    private static void scriptsOutOfRange() {
        long[][] refused = {{1, -1}, {2, -1}, {3, -1}, {1, 100000}, {1, 150001}, {2, 10000000000L},
            {3, 1000000000000000L}, {1, 999999999999999L}, {1, Long.MAX_VALUE}, {2, Long.MAX_VALUE},
            {3, Long.MAX_VALUE}, {1, Long.MIN_VALUE}, {3, Long.MIN_VALUE}, {1, -50001}, {3, -500015000150001L},
            {1, 1L << 32 | 50001}, {0, -1}, {4, 0}};
        for (long[] row : refused) {
            Story.noRange("script " + row[1] + " of " + row[0], ScriptEdgesTest::underWay,
                    x -> x.runScript((int) row[0], row[1]));
        }
    }

    private static void firstThatFails() {
        CableLanding x = underWay();
        Check.same("none fails", x.runScript(3, 900019000190001L), NONE);
        Check.same("the first one", x.runScript(3, 900029000190001L), 0);
        Check.same("the second one", x.runScript(3, 900019000290001L), 1);
        Check.same("the third one", x.runScript(3, 900019000190002L), 2);
        Check.same("the first one of three", x.runScript(3, 900029000290002L), 0);
        Check.same("the second one of two", x.runScript(2, 9000190002L), 1);
    }

    private static void decimalNumbers() {
        CableLanding x = underWay();
        // Ship 1 has room for 25: 010 and 015 are ten and fifteen, also with zeros before them.
        Check.same("10 and 15", x.runScript(2, 1101011015L), NONE);
        Check.same("10 and 16", x.runScript(2, 1101011016L), 1);
        Check.same("9 and 8", x.runScript(2, 1100911008L), NONE);
        Check.same("10 days", x.runScript(3, 500085000271000L), NONE);
        Check.same("8 and 1 days", x.runScript(3, 500085000171000L), 2);
    }

    // ---- the commands

    private static void takes() {
        CableLanding x = underWay();
        single(x, 11001, true);
        single(x, 11025, true);
        single(x, 11026, false);
        single(x, 11000, false);
        single(x, 11999, false);
        single(x, 10001, false);
        CableLanding y = Check.loaded("C120999z2003500s99905410w3");
        single(y, 10999, true);
        Check.same("all, and one more", y.runScript(2, 1099910001L), 1);
        CableLanding z = Check.loaded("C120009z2003500s99905410w3");
        single(z, 10009, true);
        single(z, 10010, false);
        Check.same("the last one twice", z.runScript(3, 100081000110001L), 2);
    }

    private static void sends() {
        CableLanding x = underWay();
        single(x, 21000, true);
        single(x, 20000, false);
        Check.same("twice", x.runScript(2, 2100021000L), 1);
        Check.same("it sails out", x.runScript(2, 2100081001L), NONE);
    }

    private static void recalls() {
        CableLanding x = underWay();
        single(x, 30000, true);
        single(x, 31000, false);
        Check.same("twice", x.runScript(2, 3000030000L), 1);
        Check.same("it sails home", x.runScript(2, 3000080004L), NONE);
        Check.same("while it sails out", x.runScript(2, 2100031000L), 1);
        Check.same("when it waits", x.runScript(3, 210005000131000L), NONE);
    }

    private static void extensions() {
        CableLanding x = underWay();
        single(x, 40001, true);
        single(x, 41099, true);
        single(x, 40000, false);
        CableLanding y = Check.loaded("C120300z2003900s02005410w3");
        for (int i = 0; i < 9; i++) {
            y.extend(0, 99);
        }
        single(y, 40018, true);
        single(y, 40019, false);
        Check.same("to 999, and one more", y.runScript(2, 4001840001L), 1);
    }

    private static void passes() {
        CableLanding x = underWay();
        single(x, 50001, true);
        single(x, 50099, true);
        single(x, 50000, false);
        single(x, 50100, false);
        CableLanding y = Check.loaded("C120300z9900990s99901910w0");
        y.take(0, 99);
        y.send(0);
        Check.same("99 days", y.runScript(2, 5009971000L), NONE);
        Check.same("98 days", y.runScript(2, 5009870098L), NONE);
    }

    private static void buys() {
        CableLanding x = underWay();
        single(x, 60001, true);
        single(x, 60999, true);
        single(x, 60000, false);
        CableLanding y = Check.loaded("C129000z2003900s02005410w3");
        single(y, 60999, true);
        Check.same("to 9999, and one more", y.runScript(2, 6099960001L), 1);
        Check.same("to 9998, and one more", y.runScript(2, 6099860001L), NONE);
    }

    private static void fronts() {
        CableLanding x = Check.loaded("C120300z1200990z0300990s05005910s05005910w0");
        single(x, 70000, true);
        single(x, 70001, false);
        single(x, 71000, false);
        single(x, 72000, false);
        x.take(0, 30);
        x.send(0);
        x.pass(2);
        single(x, 70010, true);
        single(x, 70009, false);
        single(x, 70011, false);
        single(x, 71010, false);
        x.pass(1);
        single(x, 71000, true);
        single(x, 70012, false);
        single(x, 70000, false);
        x.pass(1);
        single(x, 72000, true);
        single(x, 71003, false);
        single(x, 72003, false);
        single(x, 73000, false);
        CableLanding y = Check.loaded("C120300" + "z9900990".repeat(9) + "s99920910w0");
        y.take(0, 300);
        y.send(0);
        y.pass(4);
        single(y, 70080, true);
        CableLanding z = Check.loaded("C120300" + "z0100990".repeat(9) + "s99920910w0");
        z.take(0, 9);
        z.send(0);
        z.pass(8);
        single(z, 78000, true);
        single(z, 79000, false);
        z.pass(1);
        single(z, 79000, true);
        single(z, 78000, false);
    }

    private static void places() {
        CableLanding x = Check.loaded("C120300z0100990z9900990" + "s05001910".repeat(4) + "w0");
        x.take(0, 9);
        x.send(0);
        x.send(1);
        x.send(2);
        x.pass(1);
        x.recall(2);
        x.send(3);
        int[] due = {3, 2, 4, 1};
        for (int s = 0; s < 4; s++) {
            for (int where = 0; where <= 9; where++) {
                single(x, 80000 + 1000 * s + where, where == due[s]);
            }
        }
        CableLanding y = underWay();
        for (int where = 0; where <= 9; where++) {
            single(y, 81000 + where, where == 0);
        }
    }

    private static void reasons() {
        CableLanding x = new CableLanding();
        for (int reason = 0; reason <= 9; reason++) {
            single(x, 90000 + reason, reason == 0);
        }
        x.pass(1);
        for (int reason = 0; reason <= 9; reason++) {
            single(x, 90000 + reason, reason == 6);
        }
        CableLanding y = underWay();
        for (int reason = 0; reason <= 9; reason++) {
            single(y, 90000 + reason, reason == 1);
        }
    }

    private static void commandsThatFail() {
        CableLanding x = underWay();
        single(x, 10001, false);
        single(x, 11026, false);
        single(x, 20000, false);
        single(x, 31000, false);
        single(x, 40000, false);
        single(x, 50000, false);
        single(x, 60000, false);
        Check.same("more than the depot has", Check.loaded("C120009z2003500s99905410w3").runScript(1, 10010), 0);
        Check.same("behind 999", x.runScript(3, 400994009940099L), NONE);
        CableLanding y = underWay();
        for (int i = 0; i < 9; i++) {
            y.extend(0, 99);
        }
        Check.same("to 998, to 999, further", y.runScript(3, 400574000140001L), 2);
        Check.same("beyond 9999", Check.loaded("C129999z2003500s99905410w3").runScript(1, 60001), 0);
        CableLanding z = Check.loaded("C120300z0100990s05001910s05001910w0");
        z.take(0, 1);
        z.send(0);
        Check.same("behind the end", z.runScript(2, 5000121000L), 1);
        Check.same("ahead of it", z.runScript(2, 2100050001L), NONE);
    }

    private static void noSuchNumbers() {
        CableLanding x = underWay();
        for (int number = 2; number <= 9; number++) {
            single(x, 10001 + 1000 * number, false);
            single(x, 20000 + 1000 * number, false);
            single(x, 30000 + 1000 * number, false);
            single(x, 40001 + 1000 * number, false);
            single(x, 70000 + 1000 * number, false);
            single(x, 80000 + 1000 * number, false);
        }
        CableLanding y = Check.loaded("C120300z0100990" + "s05001910".repeat(4) + "w0");
        single(y, 13001, true);
        single(y, 14001, false);
        single(y, 23000, true);
        single(y, 24000, false);
        single(y, 83000, true);
        single(y, 84000, false);
        single(y, 41001, false);
        CableLanding z = Check.loaded("C120300" + "z0100990".repeat(9) + "s05001910w0");
        single(z, 48001, true);
        single(z, 49001, false);
    }

    private static void otherDigits() {
        CableLanding x = underWay();
        for (int digit = 1; digit <= 9; digit++) {
            single(x, 21000 + 100 * digit, false);
            single(x, 21000 + 10 * digit, false);
            single(x, 21000 + digit, false);
            single(x, 30000 + 100 * digit, false);
            single(x, 30000 + 10 * digit, false);
            single(x, 30000 + digit, false);
            single(x, 40001 + 100 * digit, false);
            single(x, 50001 + 1000 * digit, false);
            single(x, 50001 + 100 * digit, false);
            single(x, 60001 + 1000 * digit, false);
            single(x, 70000 + 100 * digit, false);
            single(x, 80003 + 100 * digit, false);
            single(x, 80003 + 10 * digit, false);
            single(x, 90001 + 1000 * digit, false);
            single(x, 90001 + 100 * digit, false);
            single(x, 90001 + 10 * digit, false);
        }
        for (int group : new int[] {21000, 30000, 40001, 50001, 60001, 70000, 80003, 90001}) {
            single(x, group, true);
        }
    }

    /** Every group there is, as the model answers it. */
    private static void allGroups() {
        for (int first = 0; first <= 9; first++) {
            CableLanding x = underWay();
            single(x, 1000 * first, false);
            single(x, 1000 * first + 1, false);
        }
        Model model = new Model();
        for (char sign : TEXT.toCharArray()) {
            model.append(sign);
        }
        model.load();
        model.take(0, 20);
        model.take(1, 25);
        model.send(0);
        model.pass(1);
        int different = 0;
        CableLanding x = underWay();
        for (int group = 0; group <= 99999; group++) {
            if (group % 400 == 0) {
                x = underWay();
            }
            if (x.runScript(1, group) != model.runScript(1, group)) {
                different++;
            }
        }
        Check.same("groups that the model answers in another way", different, 0);
    }

    // ---- simulate

    /** The seed with this r in the first round; the 33 bits below it are all 0 or all 1. */
    private static long seedFor(int r, boolean ones) {
        long x = (long) r << 33 | (ones ? (1L << 33) - 1 : 0);
        long inverse = 1;
        for (int i = 0; i < 6; i++) {
            inverse = inverse * (2 - MULTIPLIER * inverse);
        }
        long seed = (x - ADDEND) * inverse;
        Check.same("x of the first round", seed * MULTIPLIER + ADDEND, x);
        return seed;
    }

    private static int first(CableLanding x, int r) {
        return x.simulate(seedFor(r, false), 1);
    }

    private static void simulationsChangeNothing() {
        for (long seed : new long[] {0, 1, -1, Long.MIN_VALUE, Long.MAX_VALUE}) {
            Story.changesNothing("simulate " + seed, ScriptEdgesTest::underWay, x -> x.simulate(seed, 99));
        }
        CableLanding x = underWay();
        Check.same("each one begins anew", x.simulate(5, 50), x.simulate(5, 50));
    }

    /** The rounds by numbers that do not overflow, and the days by the actions themselves. */
    private static int played(CableLanding y, long seed, int m) {
        BigInteger all = BigInteger.ONE.shiftLeft(64);
        BigInteger x = BigInteger.valueOf(seed).mod(all);
        int laid = 0;
        for (int i = 0; i < m; i++) {
            x = x.multiply(BigInteger.valueOf(MULTIPLIER)).add(BigInteger.valueOf(ADDEND)).mod(all);
            int r = x.shiftRight(33).intValueExact();
            int s = r / 8 % 2;
            if (r % 8 == 0) {
                y.setWaves(r / 64 % 4, r / 2048 % 10);
            } else if (r % 8 <= 2 && y.ship(s, 5) == 0 && y.about(6) < 2) {
                int units = Math.min(y.about(4), y.ship(s, 0) - y.ship(s, 4));
                if (units > 0) {
                    y.take(s, units);
                }
                y.send(s);
            }
            laid += y.pass(1);
        }
        return 1000 * laid + y.about(5);
    }

    private static void everySeed() {
        long[] seeds = {0, 1, -1, 2, 1L << 31, 1L << 32, 1L << 33, -(1L << 33), 1L << 62, Long.MAX_VALUE,
            Long.MIN_VALUE, Long.MAX_VALUE - 1, Long.MIN_VALUE + 1, MULTIPLIER, -MULTIPLIER, ADDEND, -ADDEND};
        for (long seed : seeds) {
            for (int m : new int[] {1, 2, 10, 60}) {
                Check.same("seed " + seed + ", " + m + " rounds", underWay().simulate(seed, m),
                        played(underWay(), seed, m));
            }
        }
    }

    private static void bitsOfRounds() {
        // r = 9 sends ship 1, which sails for one day and lays 3 units; the bits below r make no difference.
        CableLanding x = Check.loaded("C120300z9900990s02005910s05003920w0");
        Check.same("r = 9", x.simulate(seedFor(9, false), 1), 3001);
        Check.same("r = 9, ones below it", x.simulate(seedFor(9, true), 1), 3001);
        // The greatest r: it is 7 for r % 8, and never negative; so is the one that sends ship 1.
        Check.same("the greatest r", x.simulate(seedFor(Integer.MAX_VALUE, true), 1), 1);
        int great = Integer.MAX_VALUE - 6;
        Check.same("r % 8", great % 8, 1);
        Check.same("r / 8 % 2", great / 8 % 2, 1);
        Check.same("a great r", x.simulate(seedFor(great, true), 1), 3001);
        Check.same("the least r", x.simulate(seedFor(0, false), 1), 1);
    }

    private static void shipsOfRounds() {
        String ships = "s05001910s05002910s05003910s05004910";
        for (int count = 1; count <= 4; count++) {
            for (int number = 0; number < 12; number++) {
                CableLanding x = Check.loaded("C120300z9900990" + ships.substring(0, 9 * count) + "w0");
                Check.same("r / 8 = " + number + " of " + count, first(x, 8 * number + 1), 1000 * (number % count + 1) + 1);
            }
        }
    }

    /** Each entry of 30 becomes each of the waves; only ship 0, at the front for waves up to 4, shows it. */
    private static void wavesOfRounds() {
        CableLanding x = Check.loaded("C120300z9900990s05001410w" + "9".repeat(30));
        x.take(0, 50);
        x.send(0);
        for (int day = 0; day < 60; day++) {
            for (int waves = 3; waves <= 6; waves++) {
                int r = 0;
                while (r / 64 % 30 != day % 30 || r / 2048 % 10 != waves) {
                    r += 64;
                }
                Check.same("waves " + waves + " on day " + day, first(x, r), (waves <= 4 ? 1000 : 0) + day + 1);
            }
            if (day % 10 == 0) {
                int other = 64 * ((day + 1) % 30);
                Check.same("calm on the next day only", first(x, other), day + 1);
            }
            x.pass(1);
        }
        CableLanding y = Check.loaded("C120300z9900990s05001910w0");
        y.take(0, 50);
        y.send(0);
        for (int waves = 0; waves <= 9; waves++) {
            Check.same("a ship for all waves", first(y, 2048 * waves), 1001);
        }
        CableLanding z = Check.loaded("C120300z9900990s05001110w9");
        z.take(0, 50);
        z.send(0);
        for (int r : new int[] {0, 64, 20480, 20480 + 2048, 20480 + 4096}) {
            Check.same("r = " + r, first(z, r), (r / 2048 % 10 <= 1 ? 1000 : 0) + 1);
        }
    }

    private static void kindsOfRounds() {
        for (int kind = 0; kind < 8; kind++) {
            CableLanding x = Check.loaded("C120300z9900990s02005910w0");
            Check.same("r % 8 = " + kind, first(x, kind), kind == 1 || kind == 2 ? 5001 : 1);
            Check.same("r % 8 = " + kind + ", later", first(x, 2048 * 8 + kind), kind == 1 || kind == 2 ? 5001 : 1);
        }
        // At the front, the ship is neither filled nor sent anew.
        CableLanding y = Check.loaded("C120300z9900990s02005910w0");
        y.take(0, 3);
        y.send(0);
        y.pass(1);
        Check.same("at the front, without cable", first(y, 1), 2);
        y.pass(1);
        Check.same("sails home, and is in port only behind the round's beginning", first(y, 1), 3);
        y.pass(1);
        Check.same("in port, filled and sent; the day is that of the splice", first(y, 1), 4);
        CableLanding z = Check.loaded("C120300z0100990s02005910w0");
        z.take(0, 1);
        z.send(0);
        z.pass(3);
        Check.same("finished", first(z, 1), 4);
    }

    private static void filledInRounds() {
        Check.same("an empty depot", first(Check.loaded("C120000z9900990s02005910w0"), 1), 1);
        Check.same("3 in the depot", first(Check.loaded("C120003z9900990s02005910w0"), 1), 3001);
        Check.same("enough in the depot", first(Check.loaded("C120300z9900990s02005910w0"), 1), 5001);
        Check.same("room for 10", first(Check.loaded("C120300z9900990s01020910w0"), 1), 10001);
        CableLanding x = Check.loaded("C120300z9900990s01020910w0");
        x.take(0, 9);
        Check.same("room for one more", first(x, 1), 10001);
        CableLanding y = Check.loaded("C120009z9900990s01020910w0");
        y.take(0, 9);
        Check.same("no more in the depot", first(y, 1), 9001);
    }

    private static void daysOfRounds() {
        CableLanding x = Check.loaded("C120000z9900990s02005910w0");
        for (int m : new int[] {1, 2, 50, 98, 99}) {
            Check.same("the day behind " + m, x.simulate(0, m), m);
        }
        x.pass(99);
        Check.same("from day 99 on", x.simulate(0, 99), 198);
    }

    private static void unitsAndDay() {
        CableLanding x = Check.loaded("C129999" + "z9900990".repeat(9) + "s99920910w0");
        for (int z = 0; z < 9; z++) {
            x.extend(z, 99);
        }
        x.take(0, 999);
        x.send(0);
        x.pass(1);
        Check.same("the units of one round", x.simulate(seedFor(3, false), 1), 20002);
        Check.same("those laid before do not count", x.account(1), 20);
        Check.same("the longest route", x.simulate(1, 99), 1000 * 871 + 100);
        CableLanding y = Check.loaded("C120000z9900990s02005910w0");
        for (int i = 0; i < 11; i++) {
            y.pass(99);
        }
        Check.same("a day above 1000 is added all the same", y.simulate(0, 1), 1090);
    }
}
