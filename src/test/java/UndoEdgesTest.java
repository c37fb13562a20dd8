import java.util.LinkedHashMap;
import java.util.Map;

/** The boundary cases in "ACTIONS AND UNDO" and "EXCEPTIONS", and those of the promises 18, 28 and 29. */
public final class UndoEdgesTest {
    private static final String TEXT = "C220300z2000992z3003503s06005410s05004720w324";

    public static void main(String[] args) {
        actionsAndUndo();
        exceptions();
        undoAndSlots();
        Sentences.end();
    }

    private static void actionsAndUndo() {
        Sentences.of("ACTIONS AND UNDO");
        Sentences.holds("The methods in the section \"actions\" change the state", UndoEdgesTest::eachActionIsTakenBack);
        Sentences.holds("which consists of everything but the text and the save slots",
                UndoEdgesTest::textAndSlotsAreNoState);
        Sentences.holds("Each call of one of them that does not throw an exception is an action",
                UndoEdgesTest::refusedCallsAreNoActions);
        Sentences.holds("also if nothing becomes different", UndoEdgesTest::nothingDifferent);
        Sentences.holds("(undo is none)", UndoEdgesTest::undoIsNone);
        Sentences.holds("Before each action, the state is remembered", UndoEdgesTest::eachActionIsTakenBack);
        Sentences.holds("At most 14 states are remembered", UndoEdgesTest::fourteenStates);
        Sentences.holds("when one more is remembered, the oldest one is forgotten", UndoEdgesTest::oldestIsForgotten);
        Sentences.holds("load and restore are not actions", UndoEdgesTest::loadAndRestoreAreNoActions);
    }

    private static void exceptions() {
        Sentences.of("EXCEPTIONS");
        Sentences.holds("IndexOutOfBoundsException means that a zone or a ship does not exist",
                UndoEdgesTest::zonesAndShipsThatDoNotExist);
        Sentences.holds("or that a save slot is not 0 or 1", UndoEdgesTest::slotsThatDoNotExist);
        Sentences.holds("IllegalArgumentException means that another argument is out of its range",
                UndoEdgesTest::otherArguments);
        Sentences.holds("IllegalStateException means what the method says", UndoEdgesTest::statesThatRefuse);
        Sentences.holds("If several exceptions apply to a call, the one that its description names first is thrown",
                UndoEdgesTest::firstNamedIsThrown);
        Sentences.holds("A call that throws an exception changes nothing", UndoEdgesTest::refusedCallsChangeNothing);
    }

    private static void undoAndSlots() {
        Sentences.of("Promise 18: undo");
        Sentences.holds("Takes back the last action that is remembered", UndoEdgesTest::lastOneFirst);
        Sentences.holds("Returns how many states are still remembered", UndoEdgesTest::fourteenStates);
        Sentences.holds("Throws `IllegalStateException` if none is remembered", UndoEdgesTest::noneIsRemembered);
        Sentences.of("Promise 28: save");
        Sentences.holds("Stores the present state in a save slot", UndoEdgesTest::presentStateIsStored);
        Sentences.holds("`slot`: 0 or 1", UndoEdgesTest::slotsThatDoNotExist);
        Sentences.holds("Returns the day.", UndoEdgesTest::daysOfSlots);
        Sentences.holds("Throws `IndexOutOfBoundsException` if there is no such save slot",
                UndoEdgesTest::slotsThatDoNotExist);
        Sentences.of("Promise 29: restore");
        Sentences.holds("Replaces the state by the one in a save slot", UndoEdgesTest::presentStateIsStored);
        Sentences.holds("forgets all remembered states", UndoEdgesTest::restoreForgets);
        Sentences.holds("The save slot keeps it", UndoEdgesTest::slotsKeep);
        Sentences.holds("`slot`: 0 or 1", UndoEdgesTest::slotsThatDoNotExist);
        Sentences.holds("Returns the day then", UndoEdgesTest::daysOfSlots);
        Sentences.holds("Throws `IndexOutOfBoundsException` if there is no such save slot",
                UndoEdgesTest::slotsThatDoNotExist);
        Sentences.holds("Throws `IllegalStateException` if nothing has been saved in it since the last load",
                UndoEdgesTest::nothingSaved);
    }

    // ---- the states that are gone through

    /** Ship 0 at the front, ship 1 in port; two states remembered, slot 1 filled. */
    private static CableLanding busy() {
        CableLanding x = Check.loaded(TEXT);
        x.save(1);
        x.take(0, 30);
        x.send(0);
        x.pass(2);
        return x;
    }

    /** Each action, from a state in which it makes a difference. */
    private static Map<String, Story.Call> actions() {
        Map<String, Story.Call> actions = new LinkedHashMap<>();
        actions.put("take", x -> x.take(1, 5));
        actions.put("send", x -> x.send(1));
        actions.put("recall", x -> x.recall(0));
        actions.put("extend", x -> x.extend(1, 1));
        actions.put("buy", x -> x.buy(1));
        actions.put("setWaves", x -> x.setWaves(2, 9));
        actions.put("pass", x -> x.pass(1));
        return actions;
    }

    private static void eachActionIsTakenBack() {
        for (Map.Entry<String, Story.Call> action : actions().entrySet()) {
            CableLanding x = busy();
            String before = Story.view(x);
            action.getValue().run(x);
            Check.isTrue(action.getKey() + " makes a difference", !Story.view(x).equals(before));
            Check.same("undo of " + action.getKey(), x.undo(), 3);
            Check.isTrue(action.getKey() + " is taken back", Story.view(x).equals(before));
        }
        CableLanding x = busy();
        String before = Story.view(x);
        Check.same("units of the most days", x.pass(99), 15);
        x.undo();
        Check.isTrue("they are one action", Story.view(x).equals(before));
        x.recall(0);
        x.take(1, 50);
        x.send(1);
        // The waves of day 2 are 4, those of day 3 are 3.
        x.pass(2);
        Check.same("a splice goes on", x.about(10), 2);
        before = Story.view(x);
        x.recall(1);
        x.pass(5);
        x.undo();
        Check.same("the team rests", x.about(13), 1);
        x.undo();
        Check.isTrue("the splice that was given up goes on", Story.view(x).equals(before));
        CableLanding y = needingSplice();
        y.recall(1);
        y.undo();
        Check.same("the splice is needed again", y.about(10), 1);
        y.undo();
        Check.same("it was not needed the day before", y.about(10), 0);
    }

    /** Ship 1 has come to the front on day 2, in waves that are too high for the splice. */
    private static CableLanding needingSplice() {
        CableLanding x = busy();
        x.recall(0);
        x.take(1, 50);
        x.send(1);
        x.pass(1);
        Check.same("a splice is needed", x.about(10), 1);
        return x;
    }

    private static void textAndSlotsAreNoState() {
        CableLanding x = busy();
        x.buy(7);
        x.append('5');
        x.save(0);
        x.undo();
        Check.same("the depot", x.about(4), 270);
        Check.same("the text keeps its new sign", x.errorPosition(), CableLanding.NONE);
        Check.same("its length", x.clearText(), TEXT.length() + 1);
        x.undo();
        Check.same("undo brings no text back", x.errorPosition(), 0);
        x.restore(0);
        Check.same("the slot keeps what was taken back", x.about(4), 277);
        x.restore(1);
        Check.same("the other slot, too", x.about(4), 300);
        Check.same("restore brings no text back", x.clearText(), 0);
    }

    private static void refusedCallsAreNoActions() {
        CableLanding x = busy();
        Check.notNow("take", () -> x.take(0, 1));
        Check.noRange("take", () -> x.take(1, 0));
        Check.notNow("send", () -> x.send(0));
        Check.notNow("recall", () -> x.recall(1));
        Check.noRange("extend", () -> x.extend(0, 100));
        Check.noRange("buy", () -> x.buy(1000));
        Check.noRange("setWaves", () -> x.setWaves(3, 0));
        Check.noRange("setWaves", () -> x.setWaves(0, 10));
        Check.noRange("pass", () -> x.pass(0));
        Check.noZone("send", () -> x.send(2));
        Check.same("undo takes back the pass before", x.undo(), 2);
        Check.same("the day", x.about(5), 0);
    }

    private static void nothingDifferent() {
        CableLanding x = new CableLanding();
        Check.same("the same waves", x.setWaves(0, 3), 3);
        Check.same("undo of them", x.undo(), 0);
        Check.notNow("undo", x::undo);
        x.buy(1);
        for (int i = 0; i < 14; i++) {
            x.setWaves(0, 3);
        }
        for (int i = 13; i >= 0; i--) {
            Check.same("undo", x.undo(), i);
        }
        Check.same("they have pushed the buy out", x.about(4), 201);
    }

    private static void undoIsNone() {
        CableLanding x = new CableLanding();
        x.buy(1);
        x.buy(2);
        Check.same("undo", x.undo(), 1);
        Check.same("undo", x.undo(), 0);
        Check.same("both are taken back", x.about(4), 200);
        Check.notNow("undo of undo", x::undo);
    }

    private static CableLanding bought(int times) {
        CableLanding x = new CableLanding();
        for (int i = 1; i <= times; i++) {
            x.buy(i);
        }
        return x;
    }

    private static int depotBehind(int times) {
        return 200 + times * (times + 1) / 2;
    }

    private static void fourteenStates() {
        for (int times : new int[] {1, 13, 14, 15, 27, 28, 29, 30, 100}) {
            CableLanding x = bought(times);
            int remembered = Math.min(14, times);
            for (int i = 1; i <= remembered; i++) {
                Check.same("undo " + i + " of " + times, x.undo(), remembered - i);
                Check.same("the depot", x.about(4), depotBehind(times - i));
            }
            Check.notNow("one more of " + times, x::undo);
            Check.same("the depot stays", x.about(4), depotBehind(times - remembered));
        }
    }

    private static void oldestIsForgotten() {
        CableLanding x = bought(15);
        for (int i = 0; i < 14; i++) {
            x.undo();
        }
        Check.same("the first buy stays", x.about(4), 201);
        // Forgotten, taken back and remembered in turn, over the end of any row of 14.
        CableLanding y = bought(20);
        for (int i = 0; i < 5; i++) {
            y.undo();
        }
        Check.same("15 are left", y.about(4), depotBehind(15));
        for (int i = 16; i <= 25; i++) {
            y.buy(i);
        }
        for (int i = 1; i <= 14; i++) {
            Check.same("undo " + i, y.undo(), 14 - i);
            Check.same("the depot", y.about(4), depotBehind(25 - i));
        }
        Check.notNow("one more", y::undo);
        Check.same("the first 11 stay", y.about(4), depotBehind(11));
    }

    private static void loadAndRestoreAreNoActions() {
        CableLanding x = busy();
        x.load();
        Check.notNow("undo of load", x::undo);
        x.save(0);
        x.buy(1);
        x.restore(0);
        Check.notNow("undo of restore", x::undo);
        x.buy(1);
        Check.same("undo of the buy alone", x.undo(), 0);
    }

    // ---- exceptions

    private static void zonesAndShipsThatDoNotExist() {
        Map<String, Story.With> calls = new LinkedHashMap<>();
        calls.put("zone", (x, n) -> x.zone(n, 0));
        calls.put("ship", (x, n) -> x.ship(n, 0));
        calls.put("take", (x, n) -> x.take(n, 1));
        calls.put("send", (x, n) -> x.send(n));
        calls.put("recall", (x, n) -> x.recall(n));
        calls.put("extend", (x, n) -> x.extend(n, 1));
        calls.put("needs", (x, n) -> x.needs(n, 0));
        calls.put("reach of a ship", (x, n) -> x.reach(n, 0));
        calls.put("reach in a zone", (x, n) -> x.reach(0, n));
        calls.put("calmDays of a ship", (x, n) -> x.calmDays(n, 0));
        calls.put("calmDays in a zone", (x, n) -> x.calmDays(0, n));
        calls.put("doneAfter", (x, n) -> x.doneAfter(n));
        calls.put("extension", (x, n) -> x.extension(n));
        // The route has two zones and two ships; 3, 4, 8 and 9 are numbers that another route could have.
        for (int number : new int[] {-1, 2, 3, 4, 8, 9, Integer.MIN_VALUE, Integer.MAX_VALUE}) {
            CableLanding x = busy();
            for (Map.Entry<String, Story.With> call : calls.entrySet()) {
                Check.noZone(call.getKey() + " with " + number, () -> call.getValue().run(x, number));
            }
        }
    }

    private static void slotsThatDoNotExist() {
        Story.onlyFrom(0, 1, IndexOutOfBoundsException.class, UndoEdgesTest::busy, (x, slot) -> x.save(slot));
        Story.onlyFrom(0, 1, IndexOutOfBoundsException.class, UndoEdgesTest::bothSlotsFull,
                (x, slot) -> x.restore(slot));
    }

    private static CableLanding bothSlotsFull() {
        CableLanding x = busy();
        x.undo();
        x.save(0);
        x.buy(1);
        return x;
    }

    private static void otherArguments() {
        Class<IllegalArgumentException> kind = IllegalArgumentException.class;
        Story.onlyFrom(0, 13, kind, UndoEdgesTest::busy, (x, what) -> x.about(what));
        Story.onlyFrom(0, 4, kind, UndoEdgesTest::busy, (x, what) -> x.zone(1, what));
        Story.onlyFrom(0, 7, kind, UndoEdgesTest::busy, (x, what) -> x.ship(1, what));
        Story.onlyFrom(0, 9999, kind, UndoEdgesTest::busy, (x, day) -> x.waves(day));
        Story.onlyFrom(0, 7, kind, UndoEdgesTest::busy, (x, what) -> x.account(what));
        Story.onlyFrom(0, 99, kind, UndoEdgesTest::busy, (x, units) -> x.needs(1, units));
        Story.onlyFrom(0, 99, kind, UndoEdgesTest::busy, (x, m) -> x.ahead(m, 0));
        Story.onlyFrom(0, 4, kind, UndoEdgesTest::busy, (x, what) -> x.ahead(0, what));
        Story.onlyFrom(1, 3, kind, UndoEdgesTest::busy, (x, n) -> x.runScript(n, 0));
        Story.onlyFrom(1, 99, kind, UndoEdgesTest::busy, (x, m) -> x.simulate(0, m));
    }

    private static void statesThatRefuse() {
        CableLanding x = busy();
        Check.notNow("take at sea", () -> x.take(0, 1));
        Check.notNow("send at sea", () -> x.send(0));
        Check.notNow("recall in port", () -> x.recall(1));
        Check.notNow("restore of nothing", () -> x.restore(0));
        Check.notNow("extend beyond day 999", () -> {
            for (int i = 0; i < 11; i++) {
                x.extend(0, 99);
            }
            return 0;
        });
        Check.notNow("buy beyond 9999", () -> {
            for (int i = 0; i < 11; i++) {
                x.buy(999);
            }
            return 0;
        });
        x.clearText();
        Check.notNow("load of no text", x::load);
        Check.notNow("undo of nothing", new CableLanding()::undo);
    }

    private static CableLanding fullOfAll() {
        CableLanding x = Check.loaded("C119999z0199990s01001110w3");
        for (int i = 0; i < 9; i++) {
            x.extend(0, 99);
        }
        x.extend(0, 9);
        x.take(0, 1);
        x.send(0);
        Check.write(x, "C".repeat(160));
        return x;
    }

    private static void firstNamedIsThrown() {
        CableLanding x = fullOfAll();
        Check.noRange("append, full and out of range", () -> x.append(256));
        Check.noZone("zone, no zone and out of range", () -> x.zone(1, 5));
        Check.noZone("ship, no ship and out of range", () -> x.ship(1, 8));
        Check.noZone("take, no ship, out of range and at sea", () -> x.take(1, 0));
        Check.noZone("take, no ship and more than the depot has", () -> x.take(-1, 999));
        Check.noRange("take, out of range and at sea", () -> x.take(0, 0));
        Check.noRange("take, out of range and more than there is room for", () -> x.take(0, 1000));
        Check.noZone("extend, no zone, out of range and beyond day 999", () -> x.extend(1, 100));
        Check.noZone("extend, no zone and out of range", () -> x.extend(-1, 0));
        Check.noRange("extend, out of range and beyond day 999", () -> x.extend(0, 100));
        x.buy(1);
        Check.noRange("buy, out of range and beyond 9999", () -> x.buy(1000));
        Check.noZone("needs, no zone and out of range", () -> x.needs(1, 100));
        Check.noZone("restore, no slot and nothing saved", () -> x.restore(2));
        x.pass(99);
        Check.noZone("send, no ship; and the route", () -> x.send(1));
        Check.noZone("recall, no ship", () -> x.recall(1));
    }

    private static void refusedCallsChangeNothing() {
        Map<String, Story.Call> calls = new LinkedHashMap<>();
        calls.put("append", x -> x.append(256));
        calls.put("about", x -> x.about(14));
        calls.put("zone", x -> x.zone(2, 0));
        calls.put("ship", x -> x.ship(0, 8));
        calls.put("waves", x -> x.waves(10000));
        calls.put("account", x -> x.account(8));
        calls.put("take at sea", x -> x.take(0, 1));
        calls.put("take without room", x -> x.take(1, 51));
        calls.put("take of what the depot has not", x -> x.take(1, 271));
        calls.put("send", x -> x.send(0));
        calls.put("recall", x -> x.recall(1));
        calls.put("extend", x -> x.extend(0, 100));
        calls.put("buy", x -> x.buy(0));
        calls.put("setWaves, entry", x -> x.setWaves(3, 0));
        calls.put("setWaves, waves", x -> x.setWaves(0, 10));
        calls.put("pass", x -> x.pass(100));
        calls.put("needs", x -> x.needs(0, 100));
        calls.put("reach", x -> x.reach(0, 2));
        calls.put("calmDays", x -> x.calmDays(2, 0));
        calls.put("ahead", x -> x.ahead(99, 5));
        calls.put("doneAfter", x -> x.doneAfter(2));
        calls.put("extension", x -> x.extension(2));
        calls.put("runScript", x -> x.runScript(2, 10000000000L));
        calls.put("simulate", x -> x.simulate(1, 100));
        calls.put("save", x -> x.save(2));
        calls.put("restore of nothing", x -> x.restore(0));
        calls.put("restore of no slot", x -> x.restore(2));
        String due = Story.of(busy());
        for (Map.Entry<String, Story.Call> call : calls.entrySet()) {
            CableLanding x = busy();
            boolean refused = false;
            try {
                call.getValue().run(x);
            } catch (IndexOutOfBoundsException | IllegalArgumentException | IllegalStateException e) {
                refused = true;
            }
            Check.isTrue(call.getKey() + " is refused", refused);
            Check.isTrue(call.getKey() + " changes nothing", Story.of(x).equals(due));
        }
        Story.notNow("undo", CableLanding::new, x -> x.undo());
        Story.notNow("load", CableLanding::new, x -> x.load());
    }

    // ---- undo, save, restore

    private static void lastOneFirst() {
        CableLanding x = busy();
        x.buy(9);
        x.extend(0, 9);
        x.undo();
        Check.same("the extension is taken back", x.zone(0, 2), 99);
        Check.same("what it cost, too", x.account(6), 0);
        Check.same("the buy is not", x.account(7), 27);
        x.undo();
        Check.same("then the buy", x.account(7), 0);
        Check.same("the days are not", x.about(5), 2);
    }

    private static void noneIsRemembered() {
        Story.notNow("undo on a new object", CableLanding::new, x -> x.undo());
        Story.notNow("undo behind load", () -> Check.loaded(TEXT), x -> x.undo());
        Story.notNow("undo behind restore", UndoEdgesTest::restored, x -> x.undo());
        Story.notNow("undo behind undo", UndoEdgesTest::takenBack, x -> x.undo());
    }

    private static CableLanding restored() {
        CableLanding x = busy();
        x.restore(1);
        return x;
    }

    private static CableLanding takenBack() {
        CableLanding x = busy();
        for (int i = 0; i < 3; i++) {
            x.undo();
        }
        return x;
    }

    private static void presentStateIsStored() {
        CableLanding x = busy();
        x.recall(0);
        x.take(1, 50);
        x.send(1);
        // The waves of day 2 are 4, those of day 3 are 3.
        x.pass(2);
        Check.same("a splice goes on", x.about(10), 2);
        x.recall(1);
        Check.same("a team rests", x.about(13), 1);
        String before = Story.view(x);
        x.save(0);
        x.pass(9);
        x.setWaves(0, 9);
        x.extend(1, 5);
        x.buy(5);
        x.restore(0);
        Check.isTrue("restore brings it back", Story.view(x).equals(before));
        x.restore(1);
        Check.same("the other slot has its own", x.about(5), 0);
        CableLanding y = needingSplice();
        y.save(0);
        y.recall(1);
        y.restore(0);
        Check.same("the splice is needed again", y.about(10), 1);
        Check.same("it is done first", y.ahead(2, 0), 0);
    }

    private static void daysOfSlots() {
        CableLanding x = new CableLanding();
        Check.same("save on day 0", x.save(0), 0);
        x.pass(99);
        x.pass(1);
        Check.same("save on day 100", x.save(1), 100);
        Check.same("save over the other one", x.save(0), 100);
        x.pass(1);
        Check.same("restore of day 100", x.restore(1), 100);
        x.pass(7);
        Check.same("restore from a later day", x.restore(0), 100);
        Check.same("the day", x.about(5), 100);
    }

    private static void restoreForgets() {
        CableLanding x = bought(20);
        x.save(1);
        x.restore(1);
        Check.notNow("undo behind it", x::undo);
        x.buy(1);
        Check.same("undo of what came since", x.undo(), 0);
        CableLanding y = bought(3);
        Check.notNow("restore of nothing", () -> y.restore(1));
        Check.same("one that is refused forgets nothing", y.undo(), 2);
    }

    private static void slotsKeep() {
        CableLanding x = new CableLanding();
        x.save(0);
        for (int i = 1; i <= 3; i++) {
            x.buy(i);
            x.pass(i);
            Check.same("restore " + i, x.restore(0), 0);
            Check.same("the depot", x.about(4), 200);
        }
        x.buy(5);
        x.save(1);
        x.undo();
        x.restore(1);
        Check.same("what was taken back stays in the slot", x.about(4), 205);
    }

    private static void nothingSaved() {
        Story.notNow("slot 0 of a new object", CableLanding::new, x -> x.restore(0));
        Story.notNow("slot 1 of a new object", CableLanding::new, x -> x.restore(1));
        Story.notNow("the slot that was not saved in", UndoEdgesTest::busy, x -> x.restore(0));
        CableLanding x = busy();
        x.save(0);
        x.load();
        Check.notNow("slot 0 behind load", () -> x.restore(0));
        Check.notNow("slot 1 behind load", () -> x.restore(1));
        x.save(1);
        Check.notNow("slot 0 when slot 1 is filled", () -> x.restore(0));
        Check.same("slot 1", x.restore(1), 0);
        x.clearText();
        Check.notNow("load of no text", x::load);
        Check.same("what is refused empties no slot", x.restore(1), 0);
    }
}
