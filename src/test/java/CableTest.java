/** Promises 19 to 21: needs, reach, calmDays. */
public final class CableTest {
    public static void main(String[] args) {
        needs();
        reach();
        calmDays();
        Check.end();
    }

    private static void needs() {
        CableLanding x = Check.loaded("C110100z2000990z2000991z2000999z2000995s10005910w0");
        int[][] due = {{0, 0, 0}, {0, 1, 1}, {0, 99, 99}, {1, 0, 0}, {1, 1, 2}, {1, 99, 100}, {2, 1, 2}, {2, 11, 12},
            {2, 12, 14}, {2, 99, 108}, {3, 20, 21}, {3, 21, 23}, {3, 40, 42}};
        for (int[] row : due) {
            Check.same("needs " + row[0] + " " + row[1], x.needs(row[0], row[1]), row[2]);
        }
        Check.noZone("needs(-1, 0)", () -> x.needs(-1, 0));
        Check.noZone("needs(4, 100): the zone is named first", () -> x.needs(4, 100));
        Check.noRange("needs(0, -1)", () -> x.needs(0, -1));
        Check.noRange("needs(0, 100)", () -> x.needs(0, 100));
        Check.noRange("needs of the greatest int", () -> x.needs(0, Integer.MAX_VALUE));
    }

    private static void reach() {
        CableLanding x = Check.loaded("C110200z2000990z9900999z2000995s15005910s10005910w0");
        Check.same("reach without cable", x.reach(0, 0), 0);
        x.take(0, 1);
        Check.same("reach with 1, slack 0", x.reach(0, 0), 1);
        Check.same("reach with 1, slack 9", x.reach(0, 1), 0);
        x.take(0, 11);
        Check.same("reach with 12, slack 9", x.reach(0, 1), 11);
        x.take(0, 1);
        Check.same("reach with 13, slack 9", x.reach(0, 1), 11);
        x.take(0, 8);
        Check.same("reach with 21, slack 0, to the length", x.reach(0, 0), 20);
        Check.same("reach with 21, slack 5", x.reach(0, 2), 20);
        x.take(0, 87);
        Check.same("reach with 108, slack 9", x.reach(0, 1), 99);
        x.send(0);
        x.pass(4);
        Check.same("the length counts, not what is left", x.reach(0, 0), 20);
        Check.same("an empty ship", x.reach(1, 0), 0);
        String before = Check.all(x);
        Check.noZone("reach(-1, 0)", () -> x.reach(-1, 0));
        Check.noZone("reach(2, 0)", () -> x.reach(2, 0));
        Check.noZone("reach(0, -1)", () -> x.reach(0, -1));
        Check.noZone("reach(0, 3)", () -> x.reach(0, 3));
        Check.unchanged("reach", x, before);
    }

    private static void calmDays() {
        CableLanding x = Check.loaded("C110200z2003070z2000000z2090990s10005310s10005910s10005110w0369");
        Check.same("calm days of 3 to 7, waves 9, 0, 3, 6, 9", x.calmDays(0, 0), 2);
        Check.same("all of them", x.calmDays(1, 0), 5);
        Check.same("waves 1", x.calmDays(2, 0), 1);
        Check.same("one day", x.calmDays(0, 1), 1);
        Check.same("90 to 99", x.calmDays(0, 2), 4);
        x.pass(5);
        Check.same("from the present day", x.calmDays(0, 0), 1);
        Check.same("the permit is over", x.calmDays(0, 1), 0);
        Check.same("the permit is still to come", x.calmDays(0, 2), 4);
        x.pass(2);
        Check.same("the last day is the present one", x.calmDays(1, 0), 1);
        x.pass(1);
        Check.same("the last day is over", x.calmDays(1, 0), 0);
        x.extend(0, 2);
        Check.same("the permit is extended", x.calmDays(1, 0), 2);
        Check.noZone("calmDays(-1, 0)", () -> x.calmDays(-1, 0));
        Check.noZone("calmDays(3, 0)", () -> x.calmDays(3, 0));
        Check.noZone("calmDays(0, -1)", () -> x.calmDays(0, -1));
        Check.noZone("calmDays(0, 3)", () -> x.calmDays(0, 3));
    }
}
