/** The boundary cases in "TEXT", and those of the promises 2 to 5. */
public final class TextEdgesTest {
    private static final String HEAD = "C110000";
    private static final String ZONE = "z0100000";
    private static final String SHIP = "s01001101";
    private static final String SHORTEST = HEAD + ZONE + SHIP + "w0";
    private static final String LONGEST = HEAD + ZONE.repeat(9) + SHIP.repeat(4) + "w" + "0".repeat(30);
    private static final int NONE = CableLanding.NONE;

    public static void main(String[] args) {
        Sentences.of("TEXT");
        Sentences.holds("The object has a text buffer of at most 160 characters", TextEdgesTest::fullBuffer);
        head();
        zones();
        ships();
        Sentences.holds("the letter w and 1 to 30 digits for the waves", TextEdgesTest::waves);
        Sentences.holds("There are no blanks", TextEdgesTest::blanks);
        Sentences.holds("The text is read from left to right", TextEdgesTest::firstOfTwoErrors);
        Sentences.holds("The error position is the index of the first character that these rules do not allow at its"
                + " place", TextEdgesTest::allowedAtEachPlace);
        Sentences.holds("(a digit is not allowed if no number that is allowed begins with it and those before it)",
                TextEdgesTest::digitsThatBeginNothing);
        Sentences.holds("if the text ends too soon, it is the length of the text", TextEdgesTest::endsTooSoon);
        promises();
        Sentences.end();
    }

    private static void head() {
        Sentences.holds("A text is the letter C", () -> letter(0, 'C'));
        Sentences.holds("the digits of T (1 to 3)", () -> numbers(SHORTEST, 1, 1, 1, 3));
        Sentences.holds("and D (1 to 3)", () -> numbers(SHORTEST, 2, 1, 1, 3));
        Sentences.holds("four digits for the depot (0000 to 9999)", () -> numbers(SHORTEST, 3, 4, 0, 9999));
    }

    private static void zones() {
        Sentences.holds("then 1 to 9 zones", TextEdgesTest::oneToNineZones);
        Sentences.holds("each of them the letter z", () -> letter(7, 'z'));
        Sentences.holds("two digits for the length (01 to 99)", () -> numbers(SHORTEST, 8, 2, 1, 99));
        Sentences.holds("two for the first day (00 to 99)", TextEdgesTest::firstDays);
        Sentences.holds("two for the last day (not before the first one, to 99) of the permit", TextEdgesTest::lastDays);
        Sentences.holds("the digit of the slack", () -> numbers(SHORTEST, 14, 1, 0, 9));
    }

    private static void ships() {
        Sentences.holds("then 1 to 4 ships", TextEdgesTest::oneToFourShips);
        Sentences.holds("each of them the letter s", () -> position(HEAD + ZONE + "S01001101w0", 15));
        Sentences.holds("three digits for the capacity (010 to 999)", () -> numbers(SHORTEST, 16, 3, 10, 999));
        Sentences.holds("two for the speed (01 to 20)", () -> numbers(SHORTEST, 19, 2, 1, 20));
        Sentences.holds("the digit of the waves (1 to 9)", () -> numbers(SHORTEST, 21, 1, 1, 9));
        Sentences.holds("two digits for the rate (01 to 99)", () -> numbers(SHORTEST, 22, 2, 1, 99));
    }

    private static void promises() {
        Sentences.of("Promise 2: append");
        Sentences.holds("Appends a character to the text buffer", TextEdgesTest::lengthsOfTexts);
        Sentences.holds("`c`: character code, 0 to 255", TextEdgesTest::codes);
        Sentences.holds("Returns the new length of the text", TextEdgesTest::lengthsOfTexts);
        Sentences.holds("Throws `IllegalArgumentException` if c is out of range", TextEdgesTest::codes);
        Sentences.holds("Throws `IllegalStateException` if the text already has 160 characters",
                TextEdgesTest::fullBuffer);
        Sentences.of("Promise 3: clearText");
        Sentences.holds("Empties the text buffer", TextEdgesTest::emptied);
        Sentences.holds("Returns the previous length of the text", TextEdgesTest::lengthsOfTexts);
        Sentences.of("Promise 4: errorPosition");
        Sentences.holds("Checks the text", TextEdgesTest::checkChangesNothing);
        Sentences.holds("Returns the error position of the text; NONE if it is a text as described above",
                TextEdgesTest::shortestAndLongest);
        Sentences.of("Promise 5: load");
        Sentences.holds("Replaces everything by what the text tells", TextEdgesTest::loadsBothEnds);
        Sentences.holds("all ships are in port without cable, nothing is laid, the day and all costs and counts are 0",
                TextEdgesTest::loadsIntoUse);
        Sentences.holds("Forgets all remembered states and empties both save slots", TextEdgesTest::loadForgets);
        Sentences.holds("Keeps the text", TextEdgesTest::loadKeepsTheText);
        Sentences.holds("Returns Z", TextEdgesTest::loadsBothEnds);
        Sentences.holds("Throws `IllegalStateException` if the text is not as described above",
                TextEdgesTest::loadRefuses);
    }

    // ---- helpers

    private static void position(String text, int due) {
        CableLanding x = new CableLanding();
        Check.write(x, text);
        Check.same("error position of " + text, x.errorPosition(), due);
    }

    /** Every number of so many digits stands at this place once. */
    private static void numbers(String text, int at, int digits, int least, int most) {
        String[] allowed = new String[most - least + 1];
        for (int number = least; number <= most; number++) {
            allowed[number - least] = String.format("%0" + digits + "d", number);
        }
        for (int number = 0; number < Math.pow(10, digits); number++) {
            String written = String.format("%0" + digits + "d", number);
            int right = begun(allowed, written);
            position(text.substring(0, at) + written + text.substring(at + digits), right == digits ? NONE : at + right);
        }
    }

    /** How many digits of the number an allowed one begins with, too. */
    private static int begun(String[] allowed, String written) {
        int most = 0;
        for (String number : allowed) {
            int same = 0;
            while (same < written.length() && number.charAt(same) == written.charAt(same)) {
                same++;
            }
            most = Math.max(most, same);
        }
        return most;
    }

    private static void letter(int at, char letter) {
        for (char other : new char[] {0, ' ', '0', '9', (char) (letter - 1), (char) (letter + 1), (char) (letter ^ 32),
            255}) {
            position(SHORTEST.substring(0, at) + other + SHORTEST.substring(at + 1), at);
        }
        position(SHORTEST, NONE);
    }

    // ---- the places of a text

    private static void oneToNineZones() {
        position(HEAD + SHIP + "w0", 7);
        for (int zones = 1; zones <= 9; zones++) {
            position(HEAD + ZONE.repeat(zones) + SHIP + "w0", NONE);
        }
        position(HEAD + ZONE.repeat(10) + SHIP + "w0", 79);
    }

    private static void firstDays() {
        numbers(HEAD + "z0100990" + SHIP + "w0", 10, 2, 0, 99);
    }

    private static void lastDays() {
        for (int first = 0; first <= 99; first++) {
            numbers(String.format("%sz01%02d990%sw0", HEAD, first, SHIP), 12, 2, first, 99);
        }
        // A second zone has days of its own.
        numbers(HEAD + "z0150990" + ZONE + SHIP + "w0", 20, 2, 0, 99);
    }

    private static void oneToFourShips() {
        position(HEAD + ZONE + "w0", 15);
        for (int ships = 1; ships <= 4; ships++) {
            position(HEAD + ZONE + SHIP.repeat(ships) + "w0", NONE);
        }
        position(HEAD + ZONE + SHIP.repeat(5) + "w0", 51);
        position(HEAD + ZONE + SHIP + ZONE + SHIP + "w0", 24);
    }

    private static void waves() {
        String start = HEAD + ZONE + SHIP;
        position(start + "w", 25);
        for (int count = 1; count <= 30; count++) {
            position(start + "w" + "9".repeat(count), NONE);
        }
        position(start + "w" + "9".repeat(31), 55);
        position(start + "w" + "9".repeat(30) + "w", 55);
        position(start + "w0w", 26);
        position(start + "w0s", 26);
        position(start + "W0", 24);
        numbers(SHORTEST, 25, 1, 0, 9);
        numbers(LONGEST, 145, 1, 0, 9);
    }

    private static void blanks() {
        for (int at = 0; at <= SHORTEST.length(); at++) {
            position(SHORTEST.substring(0, at) + " " + SHORTEST.substring(at), at);
        }
    }

    private static void firstOfTwoErrors() {
        position("D410000" + ZONE + SHIP + "w0", 0);
        position("C440000" + ZONE + SHIP + "w0", 1);
        position(HEAD + "z0000000" + "s00001101w", 9);
        position(HEAD + ZONE + "s01000001w", 20);
        position(HEAD + ZONE + SHIP + "wx" + "0".repeat(40), 25);
    }

    /** What may stand at each place of the shortest text, with the others as they are. */
    private static void allowedAtEachPlace() {
        String digits = "0123456789";
        String[] allowed = {"C", "123", "123", digits, digits, digits, digits, "z", digits, "123456789", digits, digits,
            digits, digits, digits, "sz", digits, "123456789", digits, "012", "123456789", "123456789", digits,
            "123456789", "sw", digits};
        for (int at = 0; at < allowed.length; at++) {
            for (char c = 0; c <= 255; c++) {
                CableLanding x = new CableLanding();
                Check.write(x, SHORTEST.substring(0, at) + c + SHORTEST.substring(at + 1));
                int got = x.errorPosition();
                boolean refused = got == at;
                Check.isTrue("sign " + (int) c + " at " + at + " refused", refused == (allowed[at].indexOf(c) < 0));
                Check.isTrue("nothing ahead of it refused", got == NONE || got >= at);
            }
        }
        for (char c = 0; c <= 255; c++) {
            position(SHORTEST + c, digits.indexOf(c) >= 0 ? NONE : 26);
        }
    }

    private static void digitsThatBeginNothing() {
        position("C0", 1);
        position("C4", 1);
        position(HEAD + "z00", 9);
        position(HEAD + "z01554", 12);
        position(HEAD + "z015554", 13);
        position(HEAD + "z019998", 13);
        position(HEAD + ZONE + "s00", 17);
        position(HEAD + ZONE + "s0100", 20);
        position(HEAD + ZONE + "s01000", 20);
        position(HEAD + ZONE + "s01021", 20);
        position(HEAD + ZONE + "s0103", 19);
        position(HEAD + ZONE + "s010010", 21);
        position(HEAD + ZONE + "s01001100", 23);
        // The digit itself begins an allowed number, though none follows.
        position(HEAD + "z0", 9);
        position(HEAD + "z01555", 13);
        position(HEAD + ZONE + "s0102", 20);
    }

    private static void endsTooSoon() {
        for (int length = 0; length < 117; length++) {
            position(LONGEST.substring(0, length), length);
        }
        for (int length = 117; length <= 146; length++) {
            position(LONGEST.substring(0, length), NONE);
        }
        position(SHORTEST.substring(0, 15), 15);
        position(SHORTEST.substring(0, 24), 24);
        position(SHORTEST.substring(0, 25), 25);
    }

    // ---- append and clearText

    private static CableLanding fullText() {
        CableLanding x = new CableLanding();
        Check.write(x, SHORTEST + "0".repeat(134));
        return x;
    }

    private static void fullBuffer() {
        CableLanding x = fullText();
        Check.same("the error position of a full text", x.errorPosition(), 55);
        for (int c : new int[] {0, '0', 'C', 255}) {
            Story.notNow("append to a full text", TextEdgesTest::fullText, full -> full.append(c));
        }
        Check.same("a full text", x.clearText(), 160);
        Check.same("append behind it", x.append('C'), 1);
        CableLanding y = new CableLanding();
        Check.write(y, "C".repeat(159));
        Check.same("the last one", y.append('C'), 160);
        Check.notNow("one more", () -> y.append('C'));
    }

    private static void codes() {
        Story.onlyFrom(0, 255, IllegalArgumentException.class, TextEdgesTest::shortText, (x, c) -> x.append(c));
        Story.noRange("a full text, too", TextEdgesTest::fullText, x -> x.append(256));
        Story.noRange("a full text, too", TextEdgesTest::fullText, x -> x.append(-1));
    }

    private static CableLanding shortText() {
        CableLanding x = new CableLanding();
        Check.write(x, SHORTEST);
        return x;
    }

    private static void lengthsOfTexts() {
        CableLanding x = new CableLanding();
        Check.same("no text", x.clearText(), 0);
        for (int length = 1; length <= 160; length++) {
            Check.same("append", x.append('z'), length);
        }
        Check.same("clearText", x.clearText(), 160);
        Check.same("clearText again", x.clearText(), 0);
        Check.same("append", x.append(255), 1);
        Check.same("clearText of one sign", x.clearText(), 1);
    }

    private static void emptied() {
        CableLanding x = shortText();
        x.clearText();
        Check.same("the error position", x.errorPosition(), 0);
        Check.notNow("load", x::load);
        Check.write(x, SHORTEST.substring(0, 25));
        Check.same("no digit of the former text is left", x.errorPosition(), 25);
    }

    // ---- errorPosition and load

    private static void shortestAndLongest() {
        position(SHORTEST, NONE);
        position(LONGEST, NONE);
        position("C339999" + "z9999999".repeat(9) + "s99920999".repeat(4) + "w" + "9".repeat(30), NONE);
        position(LONGEST + "0", 146);
        position("", 0);
    }

    /** A ship at the front of zone 1, a remembered state, a full slot; the text is the longest one. */
    private static CableLanding busy(String text) {
        CableLanding x = Check.loaded("C220300z0500992z3003503s06005410s05004720w324");
        x.take(0, 30);
        x.save(1);
        x.send(0);
        x.pass(2);
        Check.write(x, text);
        return x;
    }

    private static void checkChangesNothing() {
        for (String text : new String[] {SHORTEST, "", "C1", HEAD + ZONE.repeat(2) + SHIP + "w0w"}) {
            Story.changesNothing("errorPosition of " + text, () -> busy(text), x -> x.errorPosition());
        }
    }

    private static void loadsBothEnds() {
        CableLanding x = new CableLanding();
        Check.write(x, SHORTEST);
        Check.same("Z of the shortest text", x.load(), 1);
        int[] least = {x.about(1), x.about(2), x.about(3), x.about(4), x.zone(0, 0), x.zone(0, 1), x.zone(0, 2),
            x.zone(0, 3), x.ship(0, 0), x.ship(0, 1), x.ship(0, 2), x.ship(0, 3), x.waves(29)};
        int[] leastDue = {1, 1, 1, 0, 1, 0, 0, 0, 10, 1, 1, 1, 0};
        for (int i = 0; i < least.length; i++) {
            Check.same("least number " + i, least[i], leastDue[i]);
        }
        Check.write(x, "C339999" + "z9999999".repeat(9) + "s99920999".repeat(4) + "w" + "9".repeat(30));
        Check.same("Z of the longest text", x.load(), 9);
        int[] most = {x.about(1), x.about(2), x.about(3), x.about(4), x.zone(8, 0), x.zone(8, 1), x.zone(8, 2),
            x.zone(8, 3), x.ship(3, 0), x.ship(3, 1), x.ship(3, 2), x.ship(3, 3), x.waves(29)};
        int[] mostDue = {4, 3, 3, 9999, 99, 99, 99, 9, 999, 20, 9, 99, 9};
        for (int i = 0; i < most.length; i++) {
            Check.same("greatest number " + i, most[i], mostDue[i]);
        }
    }

    /** Ship 1 comes to the front on day 3 and lays behind the splice; what is asked of the days ahead leaves no trace. */
    private static CableLanding behindOtherShip(int waves, int days) {
        CableLanding x = busy("C220300z0500992s06005410w324");
        x.recall(0);
        x.take(1, 50);
        x.send(1);
        x.extend(1, 9);
        x.buy(9);
        x.setWaves(0, waves);
        x.pass(days);
        x.ahead(0, 0);
        return x;
    }

    private static void loadsIntoUse() {
        CableLanding fresh = new CableLanding();
        Check.write(fresh, "C220300z0500992s06005410w324");
        fresh.load();
        String due = Story.of(fresh);
        int[][] stages = {{3, 1, 0}, {4, 2, 1}, {3, 2, 2}, {3, 3, 0}, {3, 5, 0}};
        for (int[] stage : stages) {
            CableLanding x = behindOtherShip(stage[0], stage[1]);
            Check.same("the splice of the former route", x.about(10), stage[2]);
            x.load();
            Check.isTrue("as on a new object, behind " + stage[1] + " days", Story.of(x).equals(due));
        }
        CableLanding x = busy("C220300z0500992s06005410w324");
        x.ahead(0, 0);
        x.load();
        for (int what = 4; what <= 7; what++) {
            Check.same("ship 0 " + what, x.ship(0, what), 0);
        }
        for (int what = 1; what <= 7; what++) {
            Check.same("account " + what, x.account(what), 0);
        }
        for (int what : new int[] {5, 6, 7, 9, 10, 11, 12}) {
            Check.same("about " + what, x.about(what), 0);
        }
        Check.same("free teams", x.about(13), 2);
        Check.noZone("no ship of the former route", () -> x.ship(1, 0));
        Check.noZone("no zone of the former route", () -> x.zone(1, 0));
    }

    private static void loadForgets() {
        CableLanding x = busy(SHORTEST);
        x.save(0);
        x.load();
        Check.notNow("undo", x::undo);
        Check.notNow("restore(0)", () -> x.restore(0));
        Check.notNow("restore(1)", () -> x.restore(1));
    }

    private static void loadKeepsTheText() {
        CableLanding x = shortText();
        Check.same("load", x.load(), 1);
        Check.same("load again", x.load(), 1);
        Check.same("its error position", x.errorPosition(), NONE);
        Check.same("append", x.append('5'), 27);
        Check.same("load with one more wave", x.load(), 1);
        Check.same("the wave", x.waves(1), 5);
        Check.same("its length", x.clearText(), 27);
    }

    private static void loadRefuses() {
        String[] texts = {"", "C", SHORTEST.substring(0, 25), SHORTEST + "w", HEAD + ZONE.repeat(10) + SHIP + "w0",
            HEAD + ZONE + SHIP.repeat(5) + "w0", HEAD + ZONE + SHIP + "w" + "0".repeat(31), HEAD + SHIP + "w0",
            HEAD + "z0155540" + SHIP + "w0", SHORTEST + " "};
        for (String text : texts) {
            Story.notNow("load of " + text, () -> busy(text), x -> x.load());
        }
    }
}
