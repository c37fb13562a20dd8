/** The boundary cases in "A DAY". */
public final class DayEdgesTest {
    private static final String TWO_SHIPS = "C110400z9900990s05001910s05001920w3";
    /** Two zones of one unit lie ahead of the third one, to which a ship sails for 3 days. */
    private static final String FAR = "C110400z0100990z0100990z9900990s05001910s05001920w3";

    public static void main(String[] args) {
        Sentences.of("A DAY");
        Sentences.holds("In a day, the following happens, in this order", DayEdgesTest::partsInOrder);
        sailAndCome();
        splices();
        reasons();
        lay();
        costsAndRest();
        Sentences.end();
    }

    private static void sailAndCome() {
        Sentences.holds("For each ship that sails, ascending, its days left decrease by 1", DayEdgesTest::daysLeft);
        Sentences.holds("at 0 one that sails out waits near the front", DayEdgesTest::waitsAtZero);
        Sentences.holds("one that sails home is in port (and keeps its cable)", DayEdgesTest::inPortAtZero);
        Sentences.holds("If no ship is at the front", DayEdgesTest::frontIsTaken);
        Sentences.holds("and the route is not finished", DayEdgesTest::nobodyComesBehindTheEnd);
        Sentences.holds("the waiting ship with the smallest number comes to it", DayEdgesTest::smallestComes);
        Sentences.holds("a splice is needed then if something was laid before", DayEdgesTest::neededBehindOneUnit);
        Sentences.holds("in any zone and by any ship", DayEdgesTest::neededForAnyZoneAndShip);
        Sentences.holds("(it is no longer needed when the ship leaves the front)", DayEdgesTest::noLongerNeeded);
    }

    private static void splices() {
        Sentences.holds("if a splice goes on, its days left decrease by 1, and at 0 it is done, reason 0",
                DayEdgesTest::spliceGoesOn);
        Sentences.holds("if a team is free (neither at a splice nor resting)", DayEdgesTest::freeTeam);
        Sentences.holds("and the waves are at most 3", DayEdgesTest::calmForSplice);
        Sentences.holds("the splice begins with D - 1 days left (for D = 1 it is done at once), reason 0",
                DayEdgesTest::spliceBegins);
        Sentences.holds("otherwise reason 5.", DayEdgesTest::noSplice);
    }

    private static void reasons() {
        Sentences.holds("the first one of these that applies tells the reason of the day", DayEdgesTest::orderOfReasons);
        Sentences.holds("Before the first day of the zone's permit the reason is 1", DayEdgesTest::beforePermit);
        Sentences.holds("after its last day 2", DayEdgesTest::afterPermit);
        Sentences.holds("If the waves are greater than those of the ship, it is 3", DayEdgesTest::greaterWaves);
        Sentences.holds("if u is 0, the reason is 4", DayEdgesTest::noUnit);
        Sentences.holds("and the ship sails home, for as many days as tells the number of the zone plus 1",
                DayEdgesTest::homeFromTheZone);
        Sentences.holds("Without a ship at the front the reason is 6", DayEdgesTest::nobodyAtTheFront);
        Sentences.holds("if the route was finished ahead of the day, it is 0", DayEdgesTest::finishedAhead);
    }

    private static void lay() {
        Sentences.holds("the smallest one of the speed, of what is left of the zone, and of the most that can be laid"
                + " with the cable aboard", DayEdgesTest::smallestOfThree);
        Sentences.holds("otherwise u units are laid, reason 0", DayEdgesTest::oneUnit);
        Sentences.holds("if the zone is done, the next zone follows", DayEdgesTest::nextZone);
        Sentences.holds("behind the last one the route is finished, and the ship sails home, for Z days",
                DayEdgesTest::finished);
        Sentences.holds("(other ships go on sailing out, or waiting, until they are called home)",
                DayEdgesTest::othersGoOn);
    }

    private static void costsAndRest() {
        Sentences.holds("Each ship that is not in port behind part 1 costs its rate", DayEdgesTest::notInPort);
        Sentences.holds("(also if it is sent home in part 3)", DayEdgesTest::sentHome);
        Sentences.holds("the rate of the ship at the front counts as cost of waiting, too, if the reason is 1, 2, 3 or 5",
                DayEdgesTest::waitingAtTheFront);
        Sentences.holds("each one that waits near the front behind part 2 counts, too", DayEdgesTest::waitingNearIt);
        Sentences.holds("The rest of each team that rests decreases by 1", DayEdgesTest::restDecreases);
        Sentences.holds("(a team whose splice is done in this day begins to rest, with 2 days, behind this part)",
                DayEdgesTest::restBegins);
        Sentences.holds("The day increases by 1", DayEdgesTest::dayIncreases);
    }

    // ---- helpers

    /** The units are loaded onto the ships 0, 1 and so on, which are sent; a ship with less than 0 stays in port. */
    private static CableLanding sent(String text, int... units) {
        CableLanding x = Check.loaded(text);
        for (int s = 0; s < units.length; s++) {
            if (units[s] > 0) {
                x.take(s, units[s]);
            }
            if (units[s] >= 0) {
                x.send(s);
            }
        }
        return x;
    }

    /** Ship 0 lays a unit on day 0 and is called home; ship 1, which has waited, comes to the front on day 1. */
    private static CableLanding beforeSplice(String text) {
        CableLanding x = sent(text, 50, 50);
        x.pass(1);
        Check.same("a unit is laid", x.account(1), 1);
        x.recall(0);
        return x;
    }

    private static void day(CableLanding x, int laid, int reason) {
        int day = x.about(5);
        Check.same("laid on day " + day, x.pass(1), laid);
        Check.same("reason of day " + day, x.about(9), reason);
    }

    private static void days(CableLanding x, int count) {
        for (int i = 0; i < count; i++) {
            x.pass(1);
        }
    }

    private static void place(CableLanding x, int s, int where, int daysLeft) {
        Check.same("place of ship " + s + " before day " + x.about(5), x.ship(s, 5), where);
        Check.same("days left of ship " + s + " before day " + x.about(5), x.ship(s, 6), daysLeft);
    }

    // ---- parts 1 and 2

    private static void partsInOrder() {
        // Sail, come to the front and lay: all on one day.
        CableLanding x = sent(TWO_SHIPS, 50);
        day(x, 1, 0);
        place(x, 0, 3, 0);
        // The rest of a team ends behind the work of the day: on day 3 it still rests.
        CableLanding y = beforeSplice(TWO_SHIPS);
        y.pass(1);
        y.recall(1);
        y.send(0);
        Check.same("ship 0 is still at sea", y.ship(0, 5), 1);
        day(y, 0, 5);
        day(y, 0, 5);
        day(y, 0, 0);
    }

    private static void daysLeft() {
        CableLanding x = sent(FAR, 50, -1);
        x.pass(2);
        x.take(1, 5);
        Check.same("the days of ship 1", x.send(1), 3);
        Check.same("the days of ship 0", x.recall(0), 3);
        for (int left = 3; left >= 1; left--) {
            place(x, 0, 4, left);
            place(x, 1, 1, left);
            x.pass(1);
        }
        place(x, 0, 0, 0);
        place(x, 1, 3, 0);
        x.pass(1);
        place(x, 0, 0, 0);
    }

    private static void waitsAtZero() {
        CableLanding x = sent(FAR, 50, -1);
        x.pass(2);
        x.send(1);
        x.pass(2);
        place(x, 1, 1, 1);
        x.pass(1);
        place(x, 1, 2, 0);
        x.pass(5);
        place(x, 1, 2, 0);
    }

    private static void inPortAtZero() {
        CableLanding x = sent(FAR, 50, -1);
        x.pass(2);
        x.recall(0);
        x.pass(2);
        place(x, 0, 4, 1);
        Check.notNow("take a day too soon", () -> x.take(0, 1));
        x.pass(1);
        place(x, 0, 0, 0);
        Check.same("the cable that it keeps", x.ship(0, 4), 48);
        Check.same("take in port", x.take(0, 2), 50);
    }

    private static void frontIsTaken() {
        CableLanding x = sent(TWO_SHIPS, -1, 50);
        x.pass(1);
        x.take(0, 50);
        x.send(0);
        x.pass(3);
        place(x, 0, 2, 0);
        Check.same("at the front", x.about(8), 1);
        x.recall(1);
        x.pass(1);
        Check.same("at the front then", x.about(8), 0);
    }

    private static void nobodyComesBehindTheEnd() {
        CableLanding x = sent("C110400z0100990s05001910s05001920w3", 50, 50);
        day(x, 1, 0);
        Check.same("finished", x.about(6), 1);
        day(x, 0, 0);
        Check.same("at the front", x.about(8), CableLanding.NONE);
        place(x, 1, 2, 0);
        x.pass(9);
        Check.same("at the front later", x.about(8), CableLanding.NONE);
    }

    private static void smallestComes() {
        CableLanding x = Check.loaded("C110400z9900990s05001910s05001920s05001930s05001940w4");
        x.send(3);
        x.send(2);
        x.send(1);
        x.pass(1);
        // Without cable ship 1 is at once on its way home again.
        place(x, 1, 4, 1);
        x.take(0, 9);
        x.send(0);
        x.pass(1);
        Check.same("0 comes ahead of 2 and 3", x.about(8), 0);
        x.recall(0);
        x.setWaves(0, 9);
        x.pass(1);
        Check.same("2 comes ahead of 3", x.about(8), 2);
        x.recall(2);
        x.pass(1);
        Check.same("the last one comes", x.about(8), 3);
    }

    private static void neededBehindOneUnit() {
        CableLanding x = sent("C110400z9900990s05001510s05001520w9", 9, 9);
        day(x, 0, 3);
        x.recall(0);
        day(x, 0, 3);
        Check.same("another ship, but nothing laid: no splice", x.about(10), 0);
        x.setWaves(0, 4);
        day(x, 1, 0);
        x.recall(1);
        x.send(0);
        day(x, 0, 5);
        Check.same("one unit laid: a splice", x.about(10), 1);
    }

    private static void neededForAnyZoneAndShip() {
        CableLanding x = sent("C110400z0100990z9900990s05001910s05001920w4", 50, 50);
        day(x, 1, 0);
        Check.same("zone 0 is done", x.about(6), 1);
        x.recall(0);
        day(x, 0, 5);
        Check.same("nothing is laid in zone 1, by ship 1 in none", x.about(7) + x.ship(1, 7), 0);
        Check.same("a splice is needed", x.about(10), 1);
        CableLanding y = sent(TWO_SHIPS, 50, -1);
        y.pass(1);
        y.recall(0);
        y.setWaves(0, 4);
        y.pass(1);
        y.send(0);
        day(y, 0, 5);
        Check.same("also for the ship that laid it", y.about(10), 1);
        CableLanding z = sent("C110400z0100990z9900990s05001910s05001920w4", 50);
        z.pass(1);
        day(z, 1, 0);
        Check.same("not for the ship that stays from zone to zone", z.about(10), 0);
    }

    private static void noLongerNeeded() {
        CableLanding x = beforeSplice("C110400z9900990s05001910s05001920w4");
        day(x, 0, 5);
        Check.same("needed", x.about(10), 1);
        x.recall(1);
        Check.same("not needed any more", x.about(10), 0);
        day(x, 0, 6);
        Check.same("nor a day later", x.about(10), 0);
    }

    // ---- part 3: splices

    private static void spliceGoesOn() {
        CableLanding x = beforeSplice("C130400z9900030s05001310s05001320w3");
        day(x, 0, 0);
        Check.same("days left", x.about(11), 2);
        x.setWaves(0, 9);
        day(x, 0, 0);
        Check.same("days left", x.about(11), 1);
        Check.same("it goes on", x.about(10), 2);
        Check.same("none is done", x.about(12), 0);
        // Neither the waves nor the permit, whose last day this is, hold it up.
        day(x, 0, 0);
        Check.same("days left", x.about(11), 0);
        Check.same("it is over", x.about(10), 0);
        Check.same("it is done", x.about(12), 1);
        day(x, 0, 2);
    }

    private static void freeTeam() {
        // The team of the splice that is given up on day 1 rests on the days 2 and 3.
        CableLanding x = beforeSplice("C120400z9900990s05001910s05001920w3");
        day(x, 0, 0);
        Check.same("at the splice", x.about(13), 0);
        x.recall(1);
        x.send(0);
        day(x, 0, 5);
        day(x, 0, 5);
        Check.same("free again", x.about(13), 1);
        day(x, 0, 0);
        CableLanding y = beforeSplice("C220400z9900990s05001910s05001920w3");
        y.pass(1);
        y.recall(1);
        y.send(0);
        day(y, 0, 0);
        Check.same("the second team begins while the first one rests", y.about(10), 2);
        y.recall(0);
        y.send(1);
        // The first team has rested on the days 2 and 3; ship 1 comes on day 3, when both rest.
        day(y, 0, 5);
        day(y, 0, 0);
    }

    private static void calmForSplice() {
        for (int waves = 0; waves <= 9; waves++) {
            CableLanding x = beforeSplice("C120400z9900990s05001910s05001920w3");
            x.setWaves(0, waves);
            day(x, 0, waves <= 3 ? 0 : 5);
            Check.same("the splice in waves " + waves, x.about(10), waves <= 3 ? 2 : 1);
        }
    }

    private static void spliceBegins() {
        for (int days = 1; days <= 3; days++) {
            CableLanding x = beforeSplice("C1" + days + "0400z9900990s05001910s05001920w3");
            day(x, 0, 0);
            Check.same("days left, D = " + days, x.about(11), days - 1);
            Check.same("it goes on, D = " + days, x.about(10), days == 1 ? 0 : 2);
            Check.same("it is done, D = " + days, x.about(12), days == 1 ? 1 : 0);
        }
    }

    private static void noSplice() {
        CableLanding x = beforeSplice("C110400z9900990s05001910s05001920w4");
        day(x, 0, 5);
        day(x, 0, 5);
        Check.same("it is still needed", x.about(10), 1);
        Check.same("no day of it has passed", x.about(11), 0);
        x.setWaves(0, 3);
        day(x, 0, 0);
        Check.same("it is done at once", x.about(12), 1);
        day(x, 1, 0);
    }

    // ---- part 3: reasons

    private static void orderOfReasons() {
        CableLanding x = sent("C110400z0101010s05001310w4", 0);
        // The permit ahead of the waves, these ahead of the cable, and what is behind the last day ahead of both.
        day(x, 0, 1);
        day(x, 0, 3);
        day(x, 0, 2);
        x.extend(0, 50);
        x.setWaves(0, 3);
        day(x, 0, 4);
        CableLanding y = sent("C110400z0100000z9904040s05001310s05001320w3", 1, 0);
        day(y, 1, 0);
        y.setWaves(0, 4);
        y.recall(0);
        // The splice ahead of the permit, of the waves and of the cable; then the permit ahead of the waves.
        day(y, 0, 5);
        y.setWaves(0, 3);
        day(y, 0, 0);
        y.setWaves(0, 4);
        day(y, 0, 1);
        // Day 4 is the only one of the permit: the waves ahead of the cable.
        day(y, 0, 3);
        day(y, 0, 2);
        y.setWaves(0, 3);
        day(y, 0, 2);
        y.extend(1, 9);
        day(y, 0, 4);
        CableLanding z = sent("C110400z0100000z9900000s05001310s05001320w3", 1, 0);
        z.pass(1);
        z.setWaves(0, 4);
        z.recall(0);
        // The splice ahead of the permit that is over.
        day(z, 0, 5);
        z.setWaves(0, 3);
        day(z, 0, 0);
        day(z, 0, 2);
    }

    private static void beforePermit() {
        CableLanding x = sent("C110400z9902990s05001910w0", 50);
        day(x, 0, 1);
        day(x, 0, 1);
        day(x, 1, 0);
    }

    private static void afterPermit() {
        CableLanding x = sent("C110400z9900020s05001910w0", 50);
        day(x, 1, 0);
        day(x, 1, 0);
        day(x, 1, 0);
        day(x, 0, 2);
        x.extend(0, 1);
        // The day that was added is over already.
        day(x, 0, 2);
        x.extend(0, 2);
        day(x, 1, 0);
        day(x, 0, 2);
    }

    private static void greaterWaves() {
        CableLanding x = sent("C110400z9900990s05001510w456", 50);
        day(x, 1, 0);
        day(x, 1, 0);
        day(x, 0, 3);
    }

    private static void noUnit() {
        CableLanding x = sent("C110400z9900991s05001910w0", 0);
        day(x, 0, 4);
        place(x, 0, 4, 1);
        x.pass(1);
        // One unit needs two of cable here.
        x.take(0, 1);
        x.send(0);
        day(x, 0, 4);
        x.pass(1);
        x.take(0, 1);
        x.send(0);
        day(x, 1, 0);
        day(x, 0, 4);
    }

    private static void homeFromTheZone() {
        for (int z = 0; z <= 8; z++) {
            CableLanding x = sent("C110400" + "z0100990".repeat(9) + "s05001910w0", z);
            x.pass(z + 1);
            Check.same("no cable in zone " + z, x.about(9), 4);
            place(x, 0, 4, z + 1);
            days(x, z);
            place(x, 0, 4, 1);
            days(x, 1);
            place(x, 0, 0, 0);
        }
    }

    private static void nobodyAtTheFront() {
        CableLanding x = Check.loaded(FAR);
        day(x, 0, 6);
        x.take(0, 50);
        x.send(0);
        x.pass(2);
        x.recall(0);
        day(x, 0, 6);
        x.send(1);
        // Both ships are at sea, neither at the front.
        day(x, 0, 6);
        day(x, 0, 6);
    }

    private static void finishedAhead() {
        CableLanding x = sent("C110400z0200990s05001910s05001920w3", 50);
        day(x, 1, 0);
        x.recall(0);
        day(x, 0, 6);
        x.send(0);
        day(x, 0, 0);
        day(x, 1, 0);
        Check.same("finished", x.about(6), 1);
        day(x, 0, 0);
        day(x, 0, 0);
    }

    // ---- part 3: laying

    private static void smallestOfThree() {
        int[][] due = {{5, 20, 50, 5}, {5, 4, 50, 4}, {5, 20, 3, 3}, {5, 5, 5, 5}, {20, 19, 20, 19}, {20, 20, 19, 19},
            {19, 20, 20, 19}, {1, 1, 1, 1}};
        for (int[] row : due) {
            String text = String.format("C110400z%02d00990s050%02d910w0", row[1], row[0]);
            Check.same("speed " + row[0] + ", length " + row[1] + ", cable " + row[2], sent(text, row[2]).pass(1), row[3]);
        }
        CableLanding slack = sent("C110400z9900999s05020910w0", 12);
        Check.same("12 of cable with the slack 9", slack.pass(1), 11);
        Check.same("13 of cable with the slack 9", sent("C110400z9900999s05020910w0", 13).pass(1), 11);
        Check.same("14 of cable with the slack 9", sent("C110400z9900999s05020910w0", 14).pass(1), 12);
    }

    private static void oneUnit() {
        CableLanding x = sent("C110400z9900990s05020910w0", 1);
        day(x, 1, 0);
        Check.same("laid in the zone", x.about(7), 1);
        Check.same("laid by the ship", x.ship(0, 7), 1);
        Check.same("laid in all", x.account(1), 1);
        Check.same("the cable aboard", x.ship(0, 4), 0);
    }

    private static void nextZone() {
        CableLanding x = sent("C110400z1000990z0300990z0600990z0500990s05005910w0", 50);
        x.pass(1);
        Check.same("zone 0, half of it", x.about(6), 0);
        day(x, 5, 0);
        Check.same("zone 0 is done", x.about(6), 1);
        Check.same("nothing is laid in zone 1", x.about(7), 0);
        Check.same("the ship stays at the front", x.about(8), 0);
        // 2 more would do for this day, but the next zone begins on the next one.
        day(x, 3, 0);
        Check.same("zone 1 is done", x.about(6), 2);
        day(x, 5, 0);
        Check.same("one is left in zone 2", x.about(6), 2);
        Check.same("the one", x.zone(2, 4), 1);
        day(x, 1, 0);
        Check.same("zone 2 is done", x.about(6), 3);
    }

    private static void finished() {
        for (int zones : new int[] {1, 9}) {
            CableLanding x = sent("C110400" + "z0100990".repeat(zones) + "s05001910w0", 50);
            days(x, zones - 1);
            Check.same("not finished", x.about(6), zones - 1);
            day(x, 1, 0);
            Check.same("finished", x.about(6), zones);
            Check.same("at the front", x.about(8), CableLanding.NONE);
            place(x, 0, 4, zones);
            days(x, zones - 1);
            place(x, 0, 4, 1);
            days(x, 1);
            place(x, 0, 0, 0);
        }
    }

    private static void othersGoOn() {
        CableLanding x = sent("C110400z0100990z0100990z0100990s05001910s05001920s05001930w0", 50, 50);
        x.pass(2);
        x.send(2);
        day(x, 1, 0);
        Check.same("finished", x.about(6), 3);
        place(x, 1, 2, 0);
        place(x, 2, 1, 2);
        x.pass(1);
        place(x, 2, 1, 1);
        x.pass(1);
        place(x, 2, 2, 0);
        x.pass(7);
        place(x, 1, 2, 0);
        place(x, 2, 2, 0);
        Check.same("called home", x.recall(1), 3);
        x.pass(2);
        place(x, 1, 4, 1);
        x.pass(1);
        place(x, 1, 0, 0);
        place(x, 2, 2, 0);
    }

    // ---- parts 4 and 5

    private static void costs(CableLanding x, int atSea, int waiting) {
        int atSeaBefore = x.account(4);
        int waitingBefore = x.account(5);
        int day = x.about(5);
        x.pass(1);
        Check.same("at sea on day " + day, x.account(4) - atSeaBefore, atSea);
        Check.same("waiting on day " + day, x.account(5) - waitingBefore, waiting);
    }

    private static void notInPort() {
        CableLanding x = Check.loaded(FAR);
        costs(x, 0, 0);
        x.take(0, 50);
        x.send(0);
        costs(x, 10, 0);
        costs(x, 10, 0);
        x.recall(0);
        x.send(1);
        // Ship 0 is in port and ship 1 comes to the front in part 1 of the third day.
        costs(x, 30, 0);
        costs(x, 30, 0);
        costs(x, 20, 0);
        place(x, 0, 0, 0);
    }

    private static void sentHome() {
        CableLanding x = sent(TWO_SHIPS, 0);
        costs(x, 10, 0);
        place(x, 0, 4, 1);
        costs(x, 0, 0);
        CableLanding y = sent("C110400z0100990z0100990s05001910s05001920w3", 50);
        costs(y, 10, 0);
        costs(y, 10, 0);
        Check.same("finished", y.about(6), 2);
        costs(y, 10, 0);
        costs(y, 0, 0);
    }

    private static void waitingAtTheFront() {
        CableLanding x = sent("C110400z9901030s05001310w3", 1);
        costs(x, 10, 10);
        Check.same("reason 1", x.about(9), 1);
        costs(x, 10, 0);
        Check.same("reason 0", x.about(9), 0);
        x.setWaves(0, 4);
        costs(x, 10, 10);
        Check.same("reason 3", x.about(9), 3);
        x.setWaves(0, 3);
        costs(x, 10, 0);
        Check.same("reason 4", x.about(9), 4);
        x.undo();
        x.setWaves(0, 4);
        x.pass(1);
        costs(x, 10, 10);
        Check.same("reason 2", x.about(9), 2);
        CableLanding y = beforeSplice("C120400z9900990s05001910s05001920w3");
        y.setWaves(0, 4);
        // Ship 0 is in port again; ship 1 alone is at sea.
        costs(y, 20, 20);
        Check.same("reason 5", y.about(9), 5);
        y.setWaves(0, 3);
        costs(y, 20, 0);
        costs(y, 20, 0);
        Check.same("a splice is done", y.about(12), 1);
    }

    private static void waitingNearIt() {
        CableLanding x = sent("C110400z0200990s05001901s05001902s05001907w3", 1, 1, 50);
        // Ship 0 comes to the front, the others wait.
        costs(x, 10, 9);
        costs(x, 10, 9);
        Check.same("ship 0 has no cable", x.about(9), 4);
        // Ship 1 comes to the front and does not wait any more, ship 0 is in port.
        costs(x, 9, 7);
        Check.same("ship 1 at the front", x.about(8), 1);
        costs(x, 9, 7);
        Check.same("finished", x.about(6), 1);
        // Behind the end ship 2 waits on.
        costs(x, 7, 7);
        x.recall(2);
        costs(x, 0, 0);
        CableLanding y = sent(FAR, 50, -1);
        y.pass(2);
        y.send(1);
        costs(y, 30, 0);
        y.recall(0);
        // Sailing home and sailing out is no waiting.
        costs(y, 30, 0);
        costs(y, 30, 0);
    }

    private static void restDecreases() {
        // Two teams rest from different days on: after 2 and 3 days they are free, not before and not later.
        CableLanding x = beforeSplice("C320400z9900990s05001910s05001920w3");
        x.pass(1);
        x.recall(1);
        x.send(0);
        Check.same("one rests", x.about(13), 2);
        x.pass(1);
        Check.same("one rests, one is at a splice", x.about(13), 1);
        x.recall(0);
        Check.same("both rest", x.about(13), 1);
        x.pass(1);
        Check.same("the first one is free", x.about(13), 2);
        x.pass(1);
        Check.same("both are free", x.about(13), 3);
        x.pass(1);
        Check.same("no rest is less than none", x.about(13), 3);
    }

    private static void restBegins() {
        for (int days = 1; days <= 3; days++) {
            CableLanding x = beforeSplice("C1" + days + "0400z9900990s05001910s05001920w3");
            x.pass(days);
            Check.same("done, D = " + days, x.about(12), 1);
            x.recall(1);
            x.send(0);
            x.pass(1);
            Check.same("rests on the first day behind it", x.about(9), 5);
            x.pass(1);
            Check.same("rests on the second day behind it", x.about(9), 5);
            x.pass(1);
            Check.same("the next splice begins on the third one", x.about(9), 0);
            Check.same("splices done, D = " + days, x.about(12), days == 1 ? 2 : 1);
        }
    }

    private static void dayIncreases() {
        CableLanding x = new CableLanding();
        x.pass(1);
        Check.same("a day", x.about(5), 1);
        x.pass(99);
        Check.same("99 days", x.about(5), 100);
        CableLanding y = sent("C110400z0100990s05001910w3", 50);
        y.pass(3);
        Check.same("also behind the end", y.about(5), 3);
    }
}
