/** Promises 1 to 5: a new object, append, clearText, errorPosition, load. */
public final class TextTest {
    private static final String SHORTEST = "C110000z0100000s01001101w0";
    private static final String HEAD = "C110000";
    private static final String ZONE = "z0100000";
    private static final String SHIP = "s01001101";

    public static void main(String[] args) {
        newObject();
        append();
        clearText();
        errorPositionOfHead();
        errorPositionOfZones();
        errorPositionOfShips();
        errorPositionOfWaves();
        load();
        loadForgets();
        loadBehindAnotherRoute();
        loadRefuses();
        Check.end();
    }

    private static void newObject() {
        CableLanding x = new CableLanding();
        row("a new object's about", new int[] {1, 1, 1, 2, 200, 0, 0, 0, -9, 0, 0, 0, 0, 1}, x::about);
        row("a new object's zone", new int[] {50, 0, 99, 5, 50}, what -> x.zone(0, what));
        row("a new object's ship", new int[] {100, 10, 5, 20, 0, 0, 0, 0}, what -> x.ship(0, what));
        row("a new object's account", new int[] {200, 0, 0, 0, 0, 0, 0, 0}, x::account);
        Check.same("a new object's waves", x.waves(0), 3);
        Check.same("a new object's waves, last day", x.waves(9999), 3);
        Check.notNow("undo on a new object", x::undo);
        Check.notNow("restore on a new object", () -> x.restore(0));
        Check.notNow("restore of the other slot on a new object", () -> x.restore(1));
        Check.same("a new object's text", x.clearText(), 0);
        Check.same("NONE", CableLanding.NONE, -9);
    }

    interface Numbers {
        int of(int what);
    }

    private static void row(String what, int[] due, Numbers numbers) {
        for (int i = 0; i < due.length; i++) {
            Check.same(what + " " + i, numbers.of(i), due[i]);
        }
    }

    private static void append() {
        CableLanding x = new CableLanding();
        Check.noRange("append(-1)", () -> x.append(-1));
        Check.noRange("append(256)", () -> x.append(256));
        Check.noRange("append of the smallest int", () -> x.append(Integer.MIN_VALUE));
        Check.noRange("append of the greatest int", () -> x.append(Integer.MAX_VALUE));
        Check.same("append(0)", x.append(0), 1);
        Check.same("append(255)", x.append(255), 2);
        for (int length = 3; length <= 160; length++) {
            Check.same("append", x.append('C'), length);
        }
        Check.notNow("append to a full text", () -> x.append('C'));
        Check.noRange("append(256) to a full text", () -> x.append(256));
        Check.same("a full text", x.clearText(), 160);
    }

    private static void clearText() {
        CableLanding x = new CableLanding();
        Check.same("clearText of no text", x.clearText(), 0);
        Check.write(x, SHORTEST);
        Check.same("clearText", x.clearText(), SHORTEST.length());
        Check.same("clearText again", x.clearText(), 0);
        Check.same("errorPosition behind clearText", x.errorPosition(), 0);
        Check.same("append behind clearText", x.append('C'), 1);
        Check.same("what stood there is gone", x.errorPosition(), 1);
    }

    private static void position(String text, int due) {
        CableLanding x = new CableLanding();
        Check.write(x, text);
        String before = Check.all(x);
        Check.same("errorPosition of " + text, x.errorPosition(), due);
        Check.unchanged("errorPosition of " + text, x, before);
    }

    private static void errorPositionOfHead() {
        position(SHORTEST, CableLanding.NONE);
        position("", 0);
        position("c", 0);
        position("\u0000", 0);
        position("C", 1);
        position("C0", 1);
        position("C4", 1);
        position("C3", 2);
        position("C10", 2);
        position("C14", 2);
        position("C13", 3);
        position("C11/", 3);
        position("C11:", 3);
        position("C110:", 4);
        position("C110/", 4);
        position("C1199", 5);
        position("C11999x", 6);
        position("C119999", 7);
        position("C110000s", 7);
        position("C110000 ", 7);
        position(" " + SHORTEST, 0);
    }

    private static void errorPositionOfZones() {
        position(HEAD + "z", 8);
        position(HEAD + "z0", 9);
        position(HEAD + "z00", 9);
        position(HEAD + "z99", 10);
        position(HEAD + "z01504", 12);
        position(HEAD + "z01505", 13);
        position(HEAD + "z015550", 13);
        position(HEAD + "z015554", 13);
        position(HEAD + "z015555", 14);
        position(HEAD + "z015560", 14);
        position(HEAD + "z019998", 13);
        position(HEAD + "z019999", 14);
        position(HEAD + "z010000s", 14);
        position(HEAD + ZONE, 15);
        position(HEAD + ZONE + "w", 15);
        position(HEAD + ZONE.repeat(9), 79);
        position(HEAD + ZONE.repeat(9) + "z", 79);
        position(HEAD + ZONE.repeat(9) + SHIP + "w0", CableLanding.NONE);
    }

    private static void errorPositionOfShips() {
        String start = HEAD + ZONE;
        position(start + "s00", 17);
        position(start + "s01", 18);
        position(start + "s0100", 20);
        position(start + "s01000", 20);
        position(start + "s01021", 20);
        position(start + "s01020", 21);
        position(start + "s0103", 19);
        position(start + "s010200", 21);
        position(start + "s99919900", 23);
        position(start + "s99919901", 24);
        position(start + SHIP + "z", 24);
        position(start + SHIP.repeat(4), 51);
        position(start + SHIP.repeat(4) + "s", 51);
        position(start + SHIP.repeat(4) + "w0", CableLanding.NONE);
    }

    private static void errorPositionOfWaves() {
        String start = HEAD + ZONE + SHIP + "w";
        position(start, 25);
        position(start + "w", 25);
        position(start + "9x", 26);
        position(start + "9 ", 26);
        position(start + "9".repeat(30), CableLanding.NONE);
        position(start + "9".repeat(31), 55);
        position(start + "9".repeat(30) + "w", 55);
        position(HEAD + ZONE.repeat(9) + SHIP.repeat(4) + "w" + "1".repeat(30), CableLanding.NONE);
        position(HEAD + ZONE.repeat(9) + SHIP.repeat(4) + "w" + "1".repeat(44), 146);
    }

    private static void load() {
        CableLanding x = new CableLanding();
        Check.write(x, "C320450z1203974z9900009z0199999s01001101s99920999w0192");
        Check.same("load", x.load(), 3);
        row("about", new int[] {3, 2, 3, 2, 450, 0, 0, 0, -9, 0, 0, 0, 0, 3}, x::about);
        row("zone 0", new int[] {12, 3, 97, 4, 12}, what -> x.zone(0, what));
        row("zone 1", new int[] {99, 0, 0, 9, 99}, what -> x.zone(1, what));
        row("zone 2", new int[] {1, 99, 99, 9, 1}, what -> x.zone(2, what));
        row("ship 0", new int[] {10, 1, 1, 1, 0, 0, 0, 0}, what -> x.ship(0, what));
        row("ship 1", new int[] {999, 20, 9, 99, 0, 0, 0, 0}, what -> x.ship(1, what));
        row("account", new int[] {450, 0, 0, 0, 0, 0, 0, 0}, x::account);
        row("waves", new int[] {0, 1, 9, 2, 0, 1, 9, 2}, x::waves);
        Check.same("load once more, from the text that stays", x.load(), 3);
        Check.same("the text that stays", x.clearText(), 54);
    }

    private static void loadForgets() {
        CableLanding x = new CableLanding();
        Check.write(x, "C120200z5000995s10010520w3");
        String before = Check.all(x);
        x.take(0, 60);
        x.send(0);
        x.pass(3);
        x.extend(0, 2);
        x.buy(7);
        x.setWaves(0, 5);
        x.save(0);
        x.save(1);
        Check.same("load", x.load(), 1);
        Check.isTrue("all is as at first behind load", Check.all(x).equals(before));
        Check.notNow("undo behind load", x::undo);
        Check.notNow("restore(0) behind load", () -> x.restore(0));
        Check.notNow("restore(1) behind load", () -> x.restore(1));
    }

    /** Forecasts, too, must leave nothing behind that a later route would show. */
    private static void loadBehindAnotherRoute() {
        CableLanding x = new CableLanding();
        String fresh = Check.all(Check.loaded(SHORTEST));
        Check.write(x, "C330900z0600999z9000999s05005910s06004720s01001101s99920999w0112");
        x.load();
        for (int s = 0; s < 4; s++) {
            x.take(s, 10);
            x.send(s);
        }
        x.buy(9);
        x.extend(0, 9);
        x.pass(2);
        Check.same("the front is in zone 1", x.about(6), 1);
        x.recall(0);
        x.pass(1);
        Check.same("a splice goes on", x.about(10), 2);
        Check.same("a ship sails", x.ship(0, 6), 1);
        x.ahead(0, 0);
        Check.write(x, SHORTEST);
        Check.same("load of a smaller route", x.load(), 1);
        Check.isTrue("nothing of the former one is left", Check.all(x).equals(fresh));
        CableLanding y = Check.loaded("C210900z0600999z9000999s05005910s06004720s05005710w0452");
        for (int s = 0; s < 3; s++) {
            y.take(s, 30);
            y.send(s);
        }
        y.pass(1);
        y.recall(0);
        y.pass(1);
        Check.same("a splice is needed", y.about(10), 1);
        y.ahead(0, 0);
        Check.same("load of the text that is there", y.load(), 2);
        Check.same("no splice is needed", y.about(10), 0);
        y.take(0, 30);
        y.send(0);
        y.pass(1);
        y.recall(0);
        y.setWaves(2, 0);
        y.pass(1);
        y.send(0);
        y.pass(1);
        Check.same("a splice is done", y.about(12), 1);
        Check.same("a team rests", y.about(13), 1);
        y.ahead(0, 0);
        y.load();
        Check.same("no splice is done", y.about(12), 0);
        Check.same("no team rests", y.about(13), 2);
    }

    private static void loadRefuses() {
        CableLanding x = new CableLanding();
        Check.notNow("load of no text", x::load);
        x.buy(5);
        x.save(1);
        String before = Check.all(x);
        Check.write(x, SHORTEST + "x");
        Check.notNow("load of a wrong text", x::load);
        Check.unchanged("load of a wrong text", x, before);
        Check.write(x, SHORTEST.substring(0, 25));
        Check.notNow("load of a text that ends too soon", x::load);
        Check.unchanged("load of a text that ends too soon", x, before);
        Check.same("the save slot stays", x.restore(1), 0);
        x.buy(1);
        Check.notNow("load of a text that ends too soon", x::load);
        Check.same("what is remembered stays", x.undo(), 0);
    }
}
