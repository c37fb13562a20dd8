import java.util.List;

/** Promises 11 to 18: take, send, recall, extend, buy, setWaves, pass, undo. */
public final class ActionsTest {
    private static final String TWO_ZONES = "C120300z1000990z2000990s02005910s99905920w345";

    public static void main(String[] args) {
        take();
        takeRefuses();
        send();
        recall();
        extend();
        buy();
        setWaves();
        pass();
        undo();
        undoOfEachAction();
        undoForgetsTheOldest();
        Check.end();
    }

    private static void take() {
        CableLanding x = Check.loaded(TWO_ZONES);
        Check.same("take", x.take(0, 7), 7);
        Check.same("take more", x.take(0, 13), 20);
        Check.same("the depot", x.about(4), 280);
        Check.same("take all", x.take(1, 280), 280);
        Check.same("the empty depot", x.about(4), 0);
        Check.same("all cable", x.account(0), 300);
    }

    private static void takeRefuses() {
        CableLanding x = Check.loaded(TWO_ZONES);
        x.take(0, 7);
        x.send(1);
        String before = Check.all(x);
        Check.noZone("take(-1, 1)", () -> x.take(-1, 1));
        Check.noZone("take(2, 1)", () -> x.take(2, 1));
        Check.noZone("take(2, 0): the ship is named first", () -> x.take(2, 0));
        Check.noZone("take of the greatest int", () -> x.take(Integer.MAX_VALUE, 1));
        Check.noRange("take(0, 0)", () -> x.take(0, 0));
        Check.noRange("take(0, -5)", () -> x.take(0, -5));
        Check.noRange("take(0, 1000)", () -> x.take(0, 1000));
        Check.noRange("take(1, 1000): the range is named ahead of the port", () -> x.take(1, 1000));
        Check.notNow("take without room", () -> x.take(0, 14));
        Check.notNow("take at sea", () -> x.take(1, 1));
        Check.unchanged("a take that fails", x, before);
        x.undo();
        Check.notNow("take of more than the depot has", () -> x.take(1, 301));
        Check.same("take of 999", Check.loaded("C121000z1000990s99905910w3").take(0, 999), 999);
    }

    private static void send() {
        CableLanding x = Check.loaded(TWO_ZONES);
        x.take(0, 10);
        Check.same("send to zone 0", x.send(0), 1);
        Check.same("it sails out", x.ship(0, 5), 1);
        Check.notNow("send at sea", () -> x.send(0));
        x.pass(2);
        Check.notNow("send at the front", () -> x.send(0));
        Check.same("send to zone 1", x.send(1), 2);
        Check.noZone("send(-1)", () -> x.send(-1));
        Check.noZone("send(2)", () -> x.send(2));
        CableLanding y = Check.loaded("C110300z0100990s02005910s02005910w0");
        y.take(0, 1);
        y.send(0);
        y.pass(1);
        String before = Check.all(y);
        Check.notNow("send behind the end", () -> y.send(1));
        Check.unchanged("a send that fails", y, before);
        Check.same("an empty ship is sent, too", new CableLanding().send(0), 1);
    }

    private static void recall() {
        CableLanding x = Check.loaded(TWO_ZONES);
        Check.notNow("recall in port", () -> x.recall(0));
        x.take(0, 20);
        x.send(0);
        x.send(1);
        Check.notNow("recall of one that sails out", () -> x.recall(0));
        x.pass(1);
        Check.same("recall of one that waits", x.recall(1), 1);
        Check.same("it sails home", x.ship(1, 5), 4);
        Check.notNow("recall of one that sails home", () -> x.recall(1));
        Check.same("the other one stays", x.about(8), 0);
        x.pass(1);
        Check.same("recall from the front, in zone 1", x.recall(0), 2);
        Check.same("nobody is at the front", x.about(8), -9);
        Check.same("it keeps its cable", x.ship(0, 4), 10);
        Check.noZone("recall(-1)", () -> x.recall(-1));
        Check.noZone("recall(2)", () -> x.recall(2));
        String before = Check.all(x);
        Check.notNow("recall of one that sails home", () -> x.recall(0));
        Check.unchanged("a recall that fails", x, before);
    }

    private static void extend() {
        CableLanding x = Check.loaded(TWO_ZONES);
        Check.same("extend", x.extend(1, 1), 100);
        Check.same("its costs", x.account(6), 50);
        for (int i = 2; i <= 10; i++) {
            x.extend(1, 99);
        }
        Check.same("the last day", x.zone(1, 2), 991);
        Check.same("the other zone's", x.zone(0, 2), 99);
        Check.notNow("extend to 1000", () -> x.extend(1, 9));
        Check.noRange("extend(1, 100): the range is named first", () -> x.extend(1, 100));
        Check.same("extend to 999", x.extend(1, 8), 999);
        Check.same("all costs", x.account(6), 50 * 900);
        String before = Check.all(x);
        Check.notNow("extend(1, 1)", () -> x.extend(1, 1));
        Check.noRange("extend(0, 0)", () -> x.extend(0, 0));
        Check.noRange("extend(0, -1)", () -> x.extend(0, -1));
        Check.noRange("extend of the greatest int", () -> x.extend(0, Integer.MAX_VALUE));
        Check.noZone("extend(-1, 0): the zone is named first", () -> x.extend(-1, 0));
        Check.noZone("extend(2, 1)", () -> x.extend(2, 1));
        Check.unchanged("an extend that fails", x, before);
    }

    private static void buy() {
        CableLanding x = Check.loaded("C129000z1000990s02005910w3");
        Check.same("buy", x.buy(1), 9001);
        Check.same("its costs", x.account(7), 3);
        Check.notNow("buy for 10000", () -> x.buy(999));
        Check.same("buy for 9999", x.buy(998), 9999);
        Check.same("all costs", x.account(7), 2997);
        Check.same("all cable", x.account(0), 9999);
        String before = Check.all(x);
        Check.notNow("buy(1)", () -> x.buy(1));
        Check.noRange("buy(0)", () -> x.buy(0));
        Check.noRange("buy(-1)", () -> x.buy(-1));
        Check.noRange("buy(1000)", () -> x.buy(1000));
        Check.noRange("buy of the greatest int", () -> x.buy(Integer.MAX_VALUE));
        Check.unchanged("a buy that fails", x, before);
        Check.same("buy of 999", new CableLanding().buy(999), 1199);
    }

    private static void setWaves() {
        CableLanding x = Check.loaded(TWO_ZONES);
        Check.same("setWaves", x.setWaves(2, 9), 5);
        Check.same("setWaves again", x.setWaves(2, 0), 9);
        Check.same("setWaves to the same", x.setWaves(0, 3), 3);
        Check.same("the entry on each day that it is for", x.waves(5), 0);
        Check.same("the entry beside it", x.waves(4), 4);
        String before = Check.all(x);
        Check.noRange("setWaves(-1, 0)", () -> x.setWaves(-1, 0));
        Check.noRange("setWaves(3, 0)", () -> x.setWaves(3, 0));
        Check.noRange("setWaves(29, 0)", () -> x.setWaves(29, 0));
        Check.noRange("setWaves(0, -1)", () -> x.setWaves(0, -1));
        Check.noRange("setWaves(0, 10)", () -> x.setWaves(0, 10));
        Check.unchanged("a setWaves that fails", x, before);
        Check.same("the entry 29", Check.loaded("C129000z1000990s02005910w" + "1".repeat(30)).setWaves(29, 2), 1);
    }

    private static void pass() {
        CableLanding x = Check.loaded(TWO_ZONES);
        Check.same("pass without a ship", x.pass(1), 0);
        Check.same("the day", x.about(5), 1);
        x.take(0, 20);
        x.send(0);
        Check.same("pass", x.pass(3), 15);
        Check.same("the day", x.about(5), 4);
        Check.same("pass of the most days", x.pass(99), 5);
        Check.same("the day", x.about(5), 103);
        x.undo();
        Check.same("one action for all days", x.about(5), 4);
        String before = Check.all(x);
        Check.noRange("pass(0)", () -> x.pass(0));
        Check.noRange("pass(-1)", () -> x.pass(-1));
        Check.noRange("pass(100)", () -> x.pass(100));
        Check.noRange("pass of the greatest int", () -> x.pass(Integer.MAX_VALUE));
        Check.unchanged("a pass that fails", x, before);
    }

    private static void undo() {
        CableLanding x = Check.loaded(TWO_ZONES);
        Check.notNow("undo of nothing", x::undo);
        x.buy(5);
        x.setWaves(0, 3);
        x.save(0);
        x.append('w');
        Check.fails("a call that fails is no action", IllegalArgumentException.class, () -> x.pass(0));
        x.ahead(9, 0);
        x.runScript(1, 50001);
        x.simulate(1, 5);
        Check.same("undo of what made no difference", x.undo(), 1);
        Check.same("the depot", x.about(4), 305);
        Check.same("undo", x.undo(), 0);
        Check.same("the depot", x.about(4), 300);
        Check.notNow("undo of nothing", x::undo);
        Check.same("the slot is no part of the state", x.restore(0), 0);
        Check.same("the depot from the slot", x.about(4), 305);
        Check.same("the text is no part of the state", x.clearText(), TWO_ZONES.length() + 1);
    }

    private static void undoOfEachAction() {
        List<Story.Call> actions = List.of(x -> x.take(0, 15), x -> x.send(0), x -> x.pass(3), x -> x.recall(0),
                x -> x.extend(1, 4), x -> x.buy(9), x -> x.setWaves(1, 8), x -> x.take(1, 30), x -> x.send(1),
                x -> x.pass(2), x -> x.pass(1), x -> x.recall(1), x -> x.pass(1));
        for (int i = 0; i < actions.size(); i++) {
            CableLanding x = Check.loaded(TWO_ZONES);
            for (Story.Call action : actions.subList(0, i)) {
                action.run(x);
            }
            String before = Check.all(x);
            actions.get(i).run(x);
            Check.same("undo", x.undo(), i);
            Check.unchanged("action " + i + " with its undo", x, before);
        }
    }

    private static void undoForgetsTheOldest() {
        CableLanding x = new CableLanding();
        for (int i = 1; i <= 40; i++) {
            x.buy(i);
        }
        int depot = x.about(4);
        for (int i = 0; i < 14; i++) {
            Check.same("undo", x.undo(), 13 - i);
            depot -= 40 - i;
            Check.same("the depot", x.about(4), depot);
        }
        Check.notNow("undo of what is forgotten", x::undo);
        x.buy(7);
        x.buy(8);
        Check.same("undo of what came since", x.undo(), 1);
        Check.same("the depot", x.about(4), depot + 7);
    }
}
