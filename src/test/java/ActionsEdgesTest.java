/** The boundary cases of the promises 11 to 17: take, send, recall, extend, buy, setWaves, pass. */
public final class ActionsEdgesTest {
    private static final Class<IllegalArgumentException> RANGE = IllegalArgumentException.class;
    private static final Class<IndexOutOfBoundsException> NUMBER = IndexOutOfBoundsException.class;
    private static final String TWO_ZONES = "C121000z1000990z2000990s02005910s99905920w345";

    public static void main(String[] args) {
        take();
        send();
        recall();
        extend();
        buy();
        setWaves();
        pass();
        Sentences.end();
    }

    private static void take() {
        Sentences.of("Promise 11: take");
        Sentences.holds("Loads cable from the depot onto a ship in port", ActionsEdgesTest::taken);
        Sentences.holds("`s`: ship", ActionsEdgesTest::taken);
        Sentences.holds("`units`: 1 to 999", ActionsEdgesTest::taken);
        Sentences.holds("Returns the cable aboard then", ActionsEdgesTest::taken);
        Sentences.holds("Throws `IndexOutOfBoundsException` if there is no such ship",
                () -> Story.onlyFrom(0, 1, NUMBER, ActionsEdgesTest::inPort, (x, s) -> x.take(s, 1)));
        Sentences.holds("Throws `IllegalArgumentException` if units is out of range",
                () -> Story.onlyFrom(1, 999, RANGE, ActionsEdgesTest::inPort, (x, units) -> x.take(1, units)));
        Sentences.holds("if the ship is not in port", ActionsEdgesTest::takeAtSea);
        Sentences.holds("the depot has not so much", ActionsEdgesTest::takeMoreThanTheDepotHas);
        Sentences.holds("or the ship has not so much room", ActionsEdgesTest::takeWithoutRoom);
    }

    private static void send() {
        Sentences.of("Promise 12: send");
        Sentences.holds("for as many days as tells the number of the zone of the front plus 1",
                ActionsEdgesTest::sentToEachZone);
        Sentences.holds("`s`: ship", ActionsEdgesTest::sentToEachZone);
        Sentences.holds("Returns these days", ActionsEdgesTest::sentToEachZone);
        Sentences.holds("Throws `IndexOutOfBoundsException` if there is no such ship",
                () -> Story.onlyFrom(0, 1, NUMBER, ActionsEdgesTest::inPort, (x, s) -> x.send(s)));
        Sentences.holds("if the ship is not in port", ActionsEdgesTest::sendAtSea);
        Sentences.holds("or the route is finished", ActionsEdgesTest::sendBehindTheEnd);
    }

    private static void recall() {
        Sentences.of("Promise 13: recall");
        Sentences.holds("Calls a ship home that waits near the front or is at it", ActionsEdgesTest::calledHome);
        Sentences.holds("(a splice that goes on is given up", ActionsEdgesTest::spliceGivenUp);
        Sentences.holds("its team rests for 2 days from now on, the next day being the first one)",
                ActionsEdgesTest::restOfTheTeam);
        Sentences.holds("it sails for as many days as tells the number of the zone of the front plus 1",
                ActionsEdgesTest::calledFromEachZone);
        Sentences.holds("(Z, if the route is finished)", ActionsEdgesTest::calledBehindTheEnd);
        Sentences.holds("`s`: ship", ActionsEdgesTest::calledHome);
        Sentences.holds("Returns these days", ActionsEdgesTest::calledFromEachZone);
        Sentences.holds("Throws `IndexOutOfBoundsException` if there is no such ship",
                () -> Story.onlyFrom(0, 1, NUMBER, ActionsEdgesTest::bothAtTheFront, (x, s) -> x.recall(s)));
        Sentences.holds("Throws `IllegalStateException` if the ship neither waits nor is at the front",
                ActionsEdgesTest::recallElsewhere);
    }

    private static void extend() {
        Sentences.of("Promise 14: extend");
        Sentences.holds("Extends the permit of a zone; each day costs 50", ActionsEdgesTest::extended);
        Sentences.holds("`z`: zone", ActionsEdgesTest::extended);
        Sentences.holds("`days`: 1 to 99, by which the last day becomes later", ActionsEdgesTest::extended);
        Sentences.holds("but not later than 999", ActionsEdgesTest::extendedTo999);
        Sentences.holds("Returns the last day then", ActionsEdgesTest::extended);
        Sentences.holds("Throws `IndexOutOfBoundsException` if there is no such zone",
                () -> Story.onlyFrom(0, 1, NUMBER, ActionsEdgesTest::inPort, (x, z) -> x.extend(z, 1)));
        Sentences.holds("Throws `IllegalArgumentException` if days is out of range",
                () -> Story.onlyFrom(1, 99, RANGE, ActionsEdgesTest::inPort, (x, days) -> x.extend(0, days)));
        Sentences.holds("Throws `IllegalStateException` if the last day would be later than 999",
                ActionsEdgesTest::extendedTo999);
    }

    private static void buy() {
        Sentences.of("Promise 15: buy");
        Sentences.holds("Buys cable for the depot; each unit costs 3", ActionsEdgesTest::bought);
        Sentences.holds("`units`: 1 to 999", ActionsEdgesTest::bought);
        Sentences.holds("Returns the depot then", ActionsEdgesTest::bought);
        Sentences.holds("Throws `IllegalArgumentException` if units is out of range",
                () -> Story.onlyFrom(1, 999, RANGE, ActionsEdgesTest::inPort, (x, units) -> x.buy(units)));
        Sentences.holds("Throws `IllegalStateException` if the depot would have more than 9999",
                ActionsEdgesTest::boughtTo9999);
    }

    private static void setWaves() {
        Sentences.of("Promise 16: setWaves");
        Sentences.holds("Changes an entry of the row of waves", ActionsEdgesTest::entries);
        Sentences.holds("`i`: entry, 0 to W - 1", ActionsEdgesTest::entries);
        Sentences.holds("`waves`: 0 to 9", ActionsEdgesTest::entries);
        Sentences.holds("Returns the previous waves", ActionsEdgesTest::entries);
        Sentences.holds("Throws `IllegalArgumentException` if i or waves is out of range", () -> {
            Story.onlyFrom(0, 2, RANGE, ActionsEdgesTest::inPort, (x, i) -> x.setWaves(i, 7));
            Story.onlyFrom(0, 9, RANGE, ActionsEdgesTest::inPort, (x, waves) -> x.setWaves(2, waves));
            Story.onlyFrom(0, 0, RANGE, CableLanding::new, (x, i) -> x.setWaves(i, 7));
        });
    }

    private static void pass() {
        Sentences.of("Promise 17: pass");
        Sentences.holds("Lets days pass", ActionsEdgesTest::passed);
        Sentences.holds("(Together they are one action.)", ActionsEdgesTest::oneAction);
        Sentences.holds("`m`: number of days, 1 to 99", ActionsEdgesTest::passed);
        Sentences.holds("Returns how many units were laid in them", ActionsEdgesTest::unitsOfThem);
        Sentences.holds("Throws `IllegalArgumentException` if m is out of range",
                () -> Story.onlyFrom(1, 99, RANGE, ActionsEdgesTest::bothAtTheFront, (x, m) -> x.pass(m)));
    }

    // ---- the states that are gone through

    private static CableLanding inPort() {
        return Check.loaded(TWO_ZONES);
    }

    /** Ship 0 at the front of zone 0, ship 1 waiting; 5 units are laid. */
    private static CableLanding bothAtTheFront() {
        return bothAtTheFront(inPort());
    }

    private static CableLanding bothAtTheFront(CableLanding x) {
        x.take(0, 20);
        x.send(0);
        x.send(1);
        x.pass(1);
        return x;
    }

    // ---- take

    private static void taken() {
        CableLanding x = inPort();
        Check.same("the least", x.take(0, 1), 1);
        Check.same("up to the capacity", x.take(0, 19), 20);
        Check.same("all that is in the depot but one", x.take(1, 979), 979);
        Check.same("the depot", x.about(4), 1);
        Check.same("the last one", x.take(1, 1), 980);
        Check.same("the depot", x.about(4), 0);
        Check.same("the most", inPort().take(1, 999), 999);
    }

    private static void takeAtSea() {
        Story.notNow("sails out", () -> sentOut(inPort()), x -> x.take(1, 1));
        Story.notNow("at the front", ActionsEdgesTest::bothAtTheFront, x -> x.take(0, 1));
        Story.notNow("waits", ActionsEdgesTest::bothAtTheFront, x -> x.take(1, 1));
        Story.notNow("sails home", () -> called(bothAtTheFront()), x -> x.take(1, 1));
        CableLanding x = called(bothAtTheFront());
        x.pass(1);
        Check.same("in port again", x.take(1, 1), 1);
    }

    private static CableLanding sentOut(CableLanding x) {
        x.send(1);
        return x;
    }

    private static CableLanding called(CableLanding x) {
        x.recall(1);
        return x;
    }

    private static void takeMoreThanTheDepotHas() {
        Story.notNow("of an empty depot", () -> Check.loaded("C120000z1000990s02005910w3"), x -> x.take(0, 1));
        Story.notNow("one more", () -> Check.loaded("C120009z1000990s02005910w3"), x -> x.take(0, 10));
        Check.same("just so much", Check.loaded("C120009z1000990s02005910w3").take(0, 9), 9);
    }

    private static void takeWithoutRoom() {
        Story.notNow("one more than the capacity", ActionsEdgesTest::inPort, x -> x.take(0, 21));
        CableLanding x = inPort();
        x.take(0, 19);
        Check.notNow("one more than the room", () -> x.take(0, 2));
        Check.same("just so much", x.take(0, 1), 20);
        Check.notNow("a full ship", () -> x.take(0, 1));
    }

    // ---- send

    private static void sentToEachZone() {
        CableLanding x = Check.loaded("C120100" + "z0100990".repeat(9) + "s05001910s05001910w0");
        x.take(0, 9);
        x.send(0);
        for (int z = 0; z < 9; z++) {
            Check.same("the front", x.about(6), z);
            Check.same("the days to zone " + z, x.send(1), z + 1);
            Check.same("the days left", x.ship(1, 6), z + 1);
            Check.same("it sails out", x.ship(1, 5), 1);
            x.undo();
            x.pass(1);
        }
    }

    private static void sendAtSea() {
        Story.notNow("sails out", () -> sentOut(inPort()), x -> x.send(1));
        Story.notNow("at the front", ActionsEdgesTest::bothAtTheFront, x -> x.send(0));
        Story.notNow("waits", ActionsEdgesTest::bothAtTheFront, x -> x.send(1));
        Story.notNow("sails home", () -> called(bothAtTheFront()), x -> x.send(1));
        CableLanding x = called(bothAtTheFront());
        x.pass(1);
        Check.same("in port again, and zone 0 is done", x.send(1), 2);
    }

    private static CableLanding finished() {
        CableLanding x = Check.loaded("C120100z0100990z0100990s05001910s05001910s05001910w0");
        x.take(0, 9);
        x.send(0);
        x.send(1);
        x.pass(2);
        return x;
    }

    private static void sendBehindTheEnd() {
        Story.notNow("finished", ActionsEdgesTest::finished, x -> x.send(2));
        CableLanding x = finished();
        x.undo();
        x.pass(1);
        Check.same("the last zone is not yet done", x.send(2), 2);
        x.pass(9);
        Check.notNow("a ship that has come home behind the end", () -> x.send(0));
    }

    // ---- recall

    private static void calledHome() {
        CableLanding x = bothAtTheFront();
        Check.same("waits", x.ship(1, 5), 2);
        Check.same("its days", x.recall(1), 1);
        Check.same("sails home", x.ship(1, 5), 4);
        Check.same("the other one stays at the front", x.about(8), 0);
        Check.same("its days", x.recall(0), 1);
        Check.same("sails home", x.ship(0, 5), 4);
        Check.same("nobody is at the front", x.about(8), CableLanding.NONE);
        Check.same("it keeps its cable", x.ship(0, 4), 15);
    }

    /** Ship 1 is at a splice of two days, one of which has passed; ship 0 is in port. */
    private static CableLanding atSplice() {
        CableLanding x = inPort();
        x.take(1, 50);
        bothAtTheFront(x);
        x.recall(0);
        x.setWaves(1, 3);
        x.setWaves(2, 3);
        x.pass(1);
        Check.same("a splice goes on", x.about(10), 2);
        return x;
    }

    private static void spliceGivenUp() {
        CableLanding x = atSplice();
        x.recall(1);
        Check.same("none goes on", x.about(10), 0);
        Check.same("no days left", x.about(11), 0);
        Check.same("none is done", x.about(12), 0);
        x.pass(5);
        Check.same("none is done later", x.about(12), 0);
        // A ship that waits may leave without it.
        CableLanding y = bothAtTheFront();
        y.recall(0);
        y.pass(1);
        y.send(0);
        y.setWaves(2, 3);
        y.pass(1);
        Check.same("ship 1 at a splice", y.about(10), 2);
        Check.same("ship 0 waits", y.ship(0, 5), 2);
        y.recall(0);
        Check.same("the splice goes on", y.about(10), 2);
        Check.same("its days left", y.about(11), 1);
    }

    private static void restOfTheTeam() {
        CableLanding x = atSplice();
        x.recall(1);
        Check.same("it rests", x.about(13), 0);
        x.send(0);
        x.pass(1);
        Check.same("on the next day", x.about(9), 5);
        Check.same("behind it", x.about(13), 0);
        x.pass(1);
        Check.same("on the second day", x.about(9), 5);
        Check.same("behind it", x.about(13), 1);
        x.setWaves(1, 3);
        x.pass(1);
        Check.same("then it is free for the next splice", x.about(9), 0);
        // A team that has ended its splice is not sent to rest anew.
        CableLanding y = atSplice();
        y.pass(2);
        Check.same("done", y.about(12), 1);
        y.recall(1);
        y.pass(1);
        Check.same("the rest ends as it was begun", y.about(13), 1);
    }

    private static void calledFromEachZone() {
        CableLanding x = Check.loaded("C120100" + "z0100990".repeat(9) + "s05001910s05001910w0");
        x.take(0, 9);
        x.send(0);
        x.send(1);
        for (int z = 1; z < 9; z++) {
            x.pass(1);
            Check.same("the front", x.about(6), z);
            Check.same("the days from the front in zone " + z, x.recall(0), z + 1);
            Check.same("the days left", x.ship(0, 6), z + 1);
            x.undo();
            Check.same("the days of the ship that waits", x.recall(1), z + 1);
            x.undo();
        }
        CableLanding y = new CableLanding();
        y.take(0, 9);
        y.send(0);
        y.pass(1);
        Check.same("the days from zone 0", y.recall(0), 1);
    }

    private static void calledBehindTheEnd() {
        CableLanding x = finished();
        Check.same("the days with two zones", x.recall(1), 2);
        Check.same("the days left", x.ship(1, 6), 2);
        CableLanding y = Check.loaded("C120100" + "z0100990".repeat(9) + "s05001910s05001910w0");
        y.take(0, 9);
        y.send(0);
        y.send(1);
        y.pass(9);
        Check.same("the days with nine zones", y.recall(1), 9);
        CableLanding z = Check.loaded("C120100z0100990s05001910s05001910w0");
        z.take(0, 9);
        z.send(0);
        z.send(1);
        z.pass(1);
        Check.same("the days with one zone", z.recall(1), 1);
    }

    private static void recallElsewhere() {
        Story.notNow("in port", ActionsEdgesTest::inPort, x -> x.recall(1));
        Story.notNow("sails out", () -> sentOut(inPort()), x -> x.recall(1));
        Story.notNow("sails home", () -> called(bothAtTheFront()), x -> x.recall(1));
        Story.notNow("sent home behind the end", ActionsEdgesTest::finished, x -> x.recall(0));
        Story.notNow("in port behind the end", ActionsEdgesTest::finished, x -> x.recall(2));
    }

    // ---- extend, buy, setWaves, pass

    private static void extended() {
        CableLanding x = inPort();
        Check.same("a day", x.extend(0, 1), 100);
        Check.same("it costs", x.account(6), 50);
        Check.same("99 days", x.extend(1, 99), 198);
        Check.same("they cost", x.account(6), 5000);
        Check.same("zone 0", x.zone(0, 2), 100);
        Check.same("zone 1", x.zone(1, 2), 198);
        CableLanding y = finished();
        Check.same("a zone that is done", y.extend(0, 1), 100);
    }

    private static CableLanding nearlyTo999() {
        CableLanding x = inPort();
        for (int i = 0; i < 9; i++) {
            x.extend(1, 99);
        }
        return x;
    }

    private static void extendedTo999() {
        Check.same("the last day", nearlyTo999().zone(1, 2), 990);
        Check.same("999", nearlyTo999().extend(1, 9), 999);
        Check.same("998", nearlyTo999().extend(1, 8), 998);
        CableLanding x = nearlyTo999();
        Check.notNow("1000", () -> x.extend(1, 10));
        Check.notNow("1089", () -> x.extend(1, 99));
        Check.same("what is refused changes nothing", x.zone(1, 2), 990);
        Check.same("nor costs anything", x.account(6), 9 * 99 * 50);
        Check.same("nor is it remembered", x.undo(), 8);
        CableLanding y = nearlyTo999();
        y.extend(1, 9);
        Check.notNow("from 999 on", () -> y.extend(1, 1));
        Check.same("the other zone has its own", y.extend(0, 99), 198);
    }

    private static void bought() {
        CableLanding x = inPort();
        Check.same("a unit", x.buy(1), 1001);
        Check.same("it costs", x.account(7), 3);
        Check.same("999 units", x.buy(999), 2000);
        Check.same("they cost", x.account(7), 3000);
        Check.same("all cable", x.account(0), 2000);
        Check.same("from none on", Check.loaded("C120000z1000990s02005910w3").buy(1), 1);
    }

    private static void boughtTo9999() {
        Story.notNow("10000 by one", () -> Check.loaded("C129999z1000990s02005910w3"), x -> x.buy(1));
        Story.notNow("10000 by 999", () -> Check.loaded("C129001z1000990s02005910w3"), x -> x.buy(999));
        Check.same("9999 by 999", Check.loaded("C129000z1000990s02005910w3").buy(999), 9999);
        CableLanding x = Check.loaded("C129998z1000990s02005910w3");
        Check.notNow("10000 by two", () -> x.buy(2));
        Check.same("9999 by one", x.buy(1), 9999);
        x.take(0, 20);
        Check.same("what is aboard does not count", x.buy(20), 9999);
    }

    private static void entries() {
        CableLanding x = inPort();
        Check.same("the first entry", x.setWaves(0, 0), 3);
        Check.same("the last entry", x.setWaves(2, 9), 5);
        Check.same("the last entry again", x.setWaves(2, 1), 9);
        int[] due = {0, 4, 1, 0, 4, 1};
        for (int day = 0; day < due.length; day++) {
            Check.same("waves of day " + day, x.waves(day), due[day]);
        }
        CableLanding y = Check.loaded("C120000z1000990s02005910w" + "1".repeat(30));
        Check.same("entry 29", y.setWaves(29, 8), 1);
        Check.same("waves of day 59", y.waves(59), 8);
        Check.same("waves of day 28", y.waves(28), 1);
        Check.noRange("entry 30", () -> y.setWaves(30, 8));
        CableLanding z = bothAtTheFront();
        z.setWaves(1, 0);
        z.pass(1);
        z.setWaves(0, 9);
        Check.same("an entry stays an entry on later days", z.waves(3), 9);
        Check.same("the other one, too", z.waves(4), 0);
    }

    private static void passed() {
        CableLanding x = inPort();
        x.pass(1);
        Check.same("a day", x.about(5), 1);
        x.pass(99);
        Check.same("99 days", x.about(5), 100);
        CableLanding y = bothAtTheFront();
        CableLanding z = bothAtTheFront();
        y.pass(9);
        for (int i = 0; i < 9; i++) {
            z.pass(1);
        }
        Check.isTrue("9 days are as 9 times a day", Story.view(y).equals(Story.view(z)));
    }

    private static void oneAction() {
        CableLanding x = bothAtTheFront();
        String before = Story.view(x);
        x.pass(99);
        Check.same("undo", x.undo(), 4);
        Check.isTrue("all days are taken back", Story.view(x).equals(before));
    }

    private static void unitsOfThem() {
        CableLanding x = bothAtTheFront();
        Check.same("a day", x.pass(1), 5);
        x.undo();
        Check.same("up to the next zone", x.pass(2), 10);
        x.undo();
        // Ship 0 has 15 left; ship 1 has none.
        Check.same("as far as the cable goes", x.pass(99), 15);
        Check.same("none", x.pass(99), 0);
        CableLanding y = Check.loaded("C129999" + "z9900990".repeat(9) + "s99920910w0");
        y.take(0, 999);
        y.send(0);
        for (int z = 0; z < 9; z++) {
            y.extend(z, 99);
        }
        Check.same("the longest route", y.pass(99), 891);
    }
}
