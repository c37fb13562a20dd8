/** Promises 6 to 10: about, zone, ship, waves, account. */
public final class FactsTest {
    public static void main(String[] args) {
        about();
        zone();
        ship();
        waves();
        account();
        Check.end();
    }

    private static CableLanding underWay() {
        CableLanding x = Check.loaded("C230500z1200994z1000990s05005910s06004720w32");
        x.take(0, 30);
        x.take(1, 11);
        x.send(0);
        x.pass(4);
        return x;
    }

    private static void about() {
        CableLanding x = underWay();
        // 5, 5 and 2 units in zone 0 on the days 0 to 2, then 5 units in zone 1 on day 3.
        int[] due = {2, 2, 2, 3, 459, 4, 1, 5, 0, 0, 0, 0, 0, 2};
        for (int what = 0; what < due.length; what++) {
            Check.same("about " + what, x.about(what), due[what]);
        }
        Check.noRange("about(-1)", () -> x.about(-1));
        Check.noRange("about(14)", () -> x.about(14));
        Check.noRange("about of the smallest int", () -> x.about(Integer.MIN_VALUE));
        x.recall(0);
        Check.same("nobody at the front", x.about(8), -9);
        x.send(1);
        x.pass(2);
        Check.same("the other ship at the front", x.about(8), 1);
        Check.same("a splice goes on", x.about(10), 2);
        Check.same("its days left", x.about(11), 2);
        Check.same("free teams", x.about(13), 1);
        x.pass(2);
        Check.same("no splice goes on", x.about(10), 0);
        Check.same("no days left", x.about(11), 0);
        Check.same("splices done", x.about(12), 1);
        x.pass(2);
        Check.same("the zone of the front at the end", x.about(6), 2);
        Check.same("what is laid there at the end", x.about(7), 0);
        Check.same("nobody at the front at the end", x.about(8), -9);
        Check.same("teams that are free again", x.about(13), 2);
    }

    private static void zone() {
        CableLanding x = underWay();
        int[][] due = {{12, 0, 99, 4, 0}, {10, 0, 99, 0, 5}};
        for (int z = 0; z < 2; z++) {
            for (int what = 0; what < 5; what++) {
                Check.same("zone " + z + " " + what, x.zone(z, what), due[z][what]);
            }
        }
        Check.noZone("zone(-1, 0)", () -> x.zone(-1, 0));
        Check.noZone("zone(2, 0)", () -> x.zone(2, 0));
        Check.noZone("zone(9, 9): the zone is named first", () -> x.zone(9, 9));
        Check.noRange("zone(0, -1)", () -> x.zone(0, -1));
        Check.noRange("zone(0, 5)", () -> x.zone(0, 5));
        Check.same("a zone behind the front is whole", new CableLanding().zone(0, 4), 50);
    }

    private static void ship() {
        CableLanding x = underWay();
        // 6 and 6 and 3 units of cable in zone 0, 5 in zone 1, of 30.
        int[][] due = {{50, 5, 9, 10, 10, 3, 0, 17}, {60, 4, 7, 20, 11, 0, 0, 0}};
        for (int s = 0; s < 2; s++) {
            for (int what = 0; what < 8; what++) {
                Check.same("ship " + s + " " + what, x.ship(s, what), due[s][what]);
            }
        }
        x.recall(0);
        Check.same("it sails home", x.ship(0, 5), 4);
        Check.same("its days left", x.ship(0, 6), 2);
        x.send(1);
        Check.same("the other one sails out", x.ship(1, 5), 1);
        Check.same("the other one's days left", x.ship(1, 6), 2);
        x.pass(1);
        Check.same("a day later", x.ship(1, 6), 1);
        Check.noZone("ship(-1, 0)", () -> x.ship(-1, 0));
        Check.noZone("ship(2, 0)", () -> x.ship(2, 0));
        Check.noZone("ship(4, 8): the ship is named first", () -> x.ship(4, 8));
        Check.noRange("ship(0, -1)", () -> x.ship(0, -1));
        Check.noRange("ship(1, 8)", () -> x.ship(1, 8));
    }

    private static void waves() {
        CableLanding x = Check.loaded("C110100z1000990s01005910w0192");
        int[] due = {0, 1, 9, 2, 0};
        for (int day = 0; day < due.length; day++) {
            Check.same("waves " + day, x.waves(day), due[day]);
        }
        Check.same("waves 9999", x.waves(9999), 2);
        x.pass(1);
        Check.same("waves are told by the day itself, not from now on", x.waves(1), 1);
        Check.noRange("waves(-1)", () -> x.waves(-1));
        Check.noRange("waves(10000)", () -> x.waves(10000));
        Check.noRange("waves of the smallest int", () -> x.waves(Integer.MIN_VALUE));
    }

    private static void account() {
        CableLanding x = underWay();
        int[] due = {500, 17, 3, 21, 40, 0, 0, 0};
        for (int what = 0; what < due.length; what++) {
            Check.same("account " + what, x.account(what), due[what]);
        }
        x.buy(20);
        x.extend(1, 3);
        Check.same("cable with what was bought", x.account(0), 520);
        Check.same("paid for extensions", x.account(6), 150);
        Check.same("paid for cable", x.account(7), 60);
        Check.same("all cable is somewhere", x.about(4) + x.account(1) + x.account(2) + x.account(3), 520);
        Check.noRange("account(-1)", () -> x.account(-1));
        Check.noRange("account(8)", () -> x.account(8));
    }
}
