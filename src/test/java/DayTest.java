/** What happens in a day, part by part (promise 17 lets it pass; promises 6, 8 and 10 show it). */
public final class DayTest {
    private static final String TWO_SHIPS = "C120300z2000990s01005910s01005920w3";

    public static void main(String[] args) {
        layToTheEnd();
        slackOfEachDay();
        spliceByAnotherShip();
        spliceByTheSameShip();
        spliceGivenUp();
        spliceOfOneDay();
        spliceOfThreeDays();
        spliceInWaves();
        spliceBeforePermit();
        manyTeams();
        permitAndWaves();
        orderOfReasons();
        tooLittleCable();
        farZones();
        shipsBehindTheEnd();
        smallestNumberComesFirst();
        Check.end();
    }

    /** The reason, then the costs of days at sea and of waiting so far. */
    private static void day(CableLanding x, int laid, int reason, int atSea, int waiting) {
        String day = "day " + x.about(5);
        Check.same(day + ", laid", x.pass(1), laid);
        Check.same(day + ", reason", x.about(9), reason);
        Check.same(day + ", costs of days at sea", x.account(4), atSea);
        Check.same(day + ", costs of waiting", x.account(5), waiting);
    }

    private static void splice(CableLanding x, int stage, int daysLeft, int done, int free) {
        String day = "before day " + x.about(5);
        Check.same(day + ", the splice", x.about(10), stage);
        Check.same(day + ", its days left", x.about(11), daysLeft);
        Check.same(day + ", splices done", x.about(12), done);
        Check.same(day + ", free teams", x.about(13), free);
    }

    private static void place(CableLanding x, int s, int where, int daysLeft) {
        Check.same("ship " + s + " before day " + x.about(5), x.ship(s, 5), where);
        Check.same("its days left", x.ship(s, 6), daysLeft);
    }

    private static void layToTheEnd() {
        CableLanding x = new CableLanding();
        day(x, 0, 6, 0, 0);
        x.take(0, 60);
        x.send(0);
        place(x, 0, 1, 1);
        for (int i = 1; i <= 5; i++) {
            day(x, 10, 0, 20 * i, 0);
        }
        Check.same("finished", x.about(6), 1);
        place(x, 0, 4, 1);
        Check.same("the cable that it keeps", x.ship(0, 4), 5);
        day(x, 0, 0, 100, 0);
        place(x, 0, 0, 0);
        Check.same("the cable that it keeps in port", x.ship(0, 4), 5);
        day(x, 0, 0, 100, 0);
    }

    private static void slackOfEachDay() {
        CableLanding x = Check.loaded("C110300z1200999z9900991s10005910w0");
        x.take(0, 30);
        x.send(0);
        x.pass(2);
        Check.same("10 units in two days need 6 each, rounded up", x.ship(0, 4), 18);
        x.pass(1);
        Check.same("the 2 that are left need 3", x.ship(0, 4), 15);
        Check.same("the next zone follows on the next day", x.about(7), 0);
        Check.same("the front", x.about(6), 1);
        x.pass(1);
        Check.same("5 in the next zone need 6", x.ship(0, 4), 9);
        Check.same("the slack used", x.account(2), 4);
    }

    private static CableLanding firstShipGone() {
        CableLanding x = Check.loaded(TWO_SHIPS);
        x.take(0, 10);
        x.take(1, 10);
        x.send(0);
        x.send(1);
        day(x, 5, 0, 30, 20);
        day(x, 5, 0, 60, 40);
        day(x, 0, 4, 90, 60);
        place(x, 0, 4, 1);
        place(x, 1, 2, 0);
        splice(x, 0, 0, 0, 1);
        day(x, 0, 0, 110, 60);
        place(x, 0, 0, 0);
        place(x, 1, 3, 0);
        splice(x, 2, 1, 0, 0);
        return x;
    }

    private static void spliceByAnotherShip() {
        CableLanding x = firstShipGone();
        day(x, 0, 0, 130, 60);
        splice(x, 0, 0, 1, 0);
        day(x, 5, 0, 150, 60);
        splice(x, 0, 0, 1, 0);
        day(x, 5, 0, 170, 60);
        splice(x, 0, 0, 1, 1);
        Check.same("finished", x.about(6), 1);
        place(x, 1, 4, 1);
        day(x, 0, 0, 170, 60);
        Check.same("what the first one has laid", x.ship(0, 7), 10);
        Check.same("what the second one has laid", x.ship(1, 7), 10);
    }

    private static void spliceByTheSameShip() {
        CableLanding x = new CableLanding();
        x.take(0, 60);
        x.send(0);
        x.pass(1);
        x.recall(0);
        day(x, 0, 6, 20, 0);
        x.send(0);
        day(x, 0, 0, 40, 0);
        splice(x, 2, 1, 0, 0);
    }

    private static void spliceGivenUp() {
        CableLanding x = firstShipGone();
        Check.same("recall", x.recall(1), 1);
        splice(x, 0, 0, 0, 0);
        day(x, 0, 6, 110, 60);
        splice(x, 0, 0, 0, 0);
        x.send(1);
        // The second day of rest.
        day(x, 0, 5, 130, 80);
        splice(x, 1, 0, 0, 1);
        day(x, 0, 0, 150, 80);
        splice(x, 2, 1, 0, 0);
    }

    private static void spliceOfOneDay() {
        CableLanding x = Check.loaded("C110300z2000990s01005910s01005920s01005940w3");
        x.take(0, 1);
        x.take(1, 1);
        x.take(2, 1);
        x.send(0);
        x.send(1);
        x.send(2);
        day(x, 1, 0, 70, 60);
        day(x, 0, 4, 140, 120);
        day(x, 0, 0, 200, 160);
        splice(x, 0, 0, 1, 0);
        day(x, 1, 0, 260, 200);
        day(x, 0, 4, 320, 240);
        // The team has rested on the two days before.
        splice(x, 0, 0, 1, 1);
        day(x, 0, 0, 360, 240);
        splice(x, 0, 0, 2, 0);
    }

    private static void spliceOfThreeDays() {
        CableLanding x = Check.loaded("C230300z2000990s05005910w3");
        x.take(0, 30);
        x.send(0);
        x.pass(1);
        x.recall(0);
        x.pass(1);
        x.send(0);
        day(x, 0, 0, 20, 0);
        splice(x, 2, 2, 0, 1);
        day(x, 0, 0, 30, 0);
        splice(x, 2, 1, 0, 1);
        day(x, 0, 0, 40, 0);
        splice(x, 0, 0, 1, 1);
        day(x, 5, 0, 50, 0);
        splice(x, 0, 0, 1, 1);
        day(x, 5, 0, 60, 0);
        splice(x, 0, 0, 1, 2);
    }

    private static void spliceInWaves() {
        CableLanding x = Check.loaded("C120300z2000990s05005910w4");
        x.take(0, 30);
        x.send(0);
        x.pass(1);
        x.recall(0);
        x.pass(1);
        x.send(0);
        day(x, 0, 5, 20, 10);
        splice(x, 1, 0, 0, 1);
        day(x, 0, 5, 30, 20);
        x.setWaves(0, 3);
        day(x, 0, 0, 40, 20);
        splice(x, 2, 1, 0, 0);
        x.setWaves(0, 9);
        // Only the beginning asks for calm waves.
        day(x, 0, 0, 50, 20);
        splice(x, 0, 0, 1, 0);
        day(x, 5, 0, 60, 20);
        x.recall(0);
        x.pass(1);
        x.send(0);
        x.pass(1);
        splice(x, 1, 0, 1, 1);
        x.recall(0);
        splice(x, 0, 0, 1, 1);
    }

    private static void spliceBeforePermit() {
        CableLanding x = Check.loaded("C110300z0500000z0550990s05005310w0");
        x.take(0, 30);
        x.send(0);
        x.pass(1);
        x.recall(0);
        x.pass(2);
        x.send(0);
        x.pass(1);
        day(x, 0, 0, 40, 0);
        splice(x, 0, 0, 1, 0);
        day(x, 0, 1, 50, 10);
    }

    private static void manyTeams() {
        CableLanding x = Check.loaded("C310300z9900990s10005910w0");
        x.take(0, 90);
        x.send(0);
        x.pass(1);
        for (int done = 1; done <= 3; done++) {
            x.recall(0);
            x.pass(1);
            x.send(0);
            x.pass(1);
            // The team of the splice before has rested in the meantime.
            splice(x, 0, 0, done, 2);
        }
        x.pass(2);
        splice(x, 0, 0, 3, 3);
        CableLanding y = Check.loaded("C310300z9900990s10005910s10005910s10005910w0");
        for (int s = 0; s < 3; s++) {
            y.take(s, 50);
            y.send(s);
        }
        y.pass(1);
        for (int s = 0; s < 2; s++) {
            y.recall(s);
            y.pass(1);
            splice(y, 0, 0, s + 1, 2 - s);
        }
    }

    private static void permitAndWaves() {
        CableLanding x = Check.loaded("C110300z2002060s05005510w3336350000");
        x.take(0, 30);
        x.send(0);
        day(x, 0, 1, 10, 10);
        day(x, 0, 1, 20, 20);
        day(x, 5, 0, 30, 20);
        day(x, 0, 3, 40, 30);
        day(x, 5, 0, 50, 30);
        // Waves 5 are still those of the ship; day 6 is the last one of the permit.
        day(x, 5, 0, 60, 30);
        x.setWaves(6, 6);
        day(x, 0, 3, 70, 40);
        day(x, 0, 2, 80, 50);
        x.extend(0, 2);
        day(x, 5, 0, 90, 50);
        CableLanding y = Check.loaded("C110300z2001010s05005510w3");
        y.take(0, 30);
        y.send(0);
        y.pass(2);
        day(y, 0, 2, 30, 20);
    }

    private static void orderOfReasons() {
        CableLanding x = Check.loaded("C110300z2001010s05005110w9");
        x.send(0);
        day(x, 0, 1, 10, 10);
        day(x, 0, 3, 20, 20);
        day(x, 0, 2, 30, 30);
        x.extend(0, 50);
        day(x, 0, 3, 40, 40);
        x.setWaves(0, 1);
        day(x, 0, 4, 50, 40);
    }

    private static void tooLittleCable() {
        CableLanding x = new CableLanding();
        x.take(0, 1);
        x.send(0);
        day(x, 0, 4, 20, 0);
        place(x, 0, 4, 1);
        day(x, 0, 6, 20, 0);
        place(x, 0, 0, 0);
        Check.same("it keeps its cable", x.ship(0, 4), 1);
        x.take(0, 6);
        x.send(0);
        // 6 units need 7; there is no splice, as nothing was laid before.
        day(x, 6, 0, 40, 0);
        Check.same("nothing is left", x.ship(0, 4), 0);
    }

    private static void farZones() {
        CableLanding x = Check.loaded("C110300z0500990z0500990z0500990s01005910s05005920w0");
        x.take(0, 10);
        x.send(0);
        x.pass(2);
        Check.same("the front", x.about(6), 2);
        day(x, 0, 4, 30, 0);
        place(x, 0, 4, 3);
        x.take(1, 20);
        Check.same("send to zone 2", x.send(1), 3);
        day(x, 0, 6, 60, 0);
        day(x, 0, 6, 90, 0);
        day(x, 0, 0, 110, 0);
        place(x, 0, 0, 0);
        place(x, 1, 3, 0);
        day(x, 5, 0, 130, 0);
        Check.same("finished", x.about(6), 3);
        place(x, 1, 4, 3);
        x.pass(2);
        place(x, 1, 4, 1);
        x.pass(1);
        place(x, 1, 0, 0);
    }

    private static void shipsBehindTheEnd() {
        CableLanding x = Check.loaded("C110300z0500990z0500990z0100990s02005910s01005920s01005940w0");
        x.take(0, 20);
        x.send(0);
        x.send(1);
        x.pass(2);
        x.send(2);
        day(x, 1, 0, 130, 60);
        Check.same("finished", x.about(6), 3);
        place(x, 2, 1, 2);
        // One goes on sailing out, one goes on waiting; the last one sails home.
        day(x, 0, 0, 200, 80);
        day(x, 0, 0, 270, 140);
        place(x, 2, 2, 0);
        place(x, 1, 2, 0);
        Check.same("nobody comes to the front", x.about(8), -9);
        Check.same("recall behind the end", x.recall(2), 3);
        day(x, 0, 0, 330, 160);
        place(x, 0, 0, 0);
    }

    private static void smallestNumberComesFirst() {
        CableLanding x = Check.loaded("C110300z2000990s01005910s01005920s01005940w3");
        x.take(2, 5);
        x.take(1, 5);
        x.take(0, 5);
        x.send(2);
        day(x, 5, 0, 40, 0);
        x.send(1);
        x.send(0);
        day(x, 0, 4, 110, 30);
        x.pass(1);
        Check.same("at the front", x.about(8), 0);
        place(x, 1, 2, 0);
    }
}
