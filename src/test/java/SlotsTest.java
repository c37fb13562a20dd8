/** Promises 28 and 29: save, restore. */
public final class SlotsTest {
    public static void main(String[] args) {
        save();
        restore();
        restoreInTheMiddle();
        Check.end();
    }

    private static void save() {
        CableLanding x = new CableLanding();
        Check.same("save", x.save(0), 0);
        x.pass(7);
        String before = Check.all(x);
        Check.same("save on day 7", x.save(1), 7);
        Check.unchanged("save", x, before);
        Check.noZone("save(-1)", () -> x.save(-1));
        Check.noZone("save(2)", () -> x.save(2));
        Check.noZone("save of the greatest int", () -> x.save(Integer.MAX_VALUE));
        Check.same("save is no action", x.undo(), 0);
    }

    private static void restore() {
        CableLanding x = new CableLanding();
        Check.noZone("restore(-1)", () -> x.restore(-1));
        Check.noZone("restore(2)", () -> x.restore(2));
        Check.notNow("restore of nothing", () -> x.restore(0));
        x.buy(10);
        x.save(0);
        Check.notNow("restore of the other slot", () -> x.restore(1));
        Check.same("what fails forgets nothing", x.undo(), 0);
        x.pass(3);
        x.save(1);
        x.append('C');
        Check.same("restore", x.restore(0), 0);
        Check.same("the depot", x.about(4), 210);
        Check.notNow("undo behind restore", x::undo);
        x.buy(100);
        Check.same("undo of what came since", x.undo(), 0);
        x.buy(100);
        Check.same("restore of the other slot", x.restore(1), 3);
        Check.same("the depot", x.about(4), 200);
        Check.same("restore once more: the slot keeps it", x.restore(0), 0);
        Check.same("the depot", x.about(4), 210);
        x.pass(9);
        x.save(0);
        Check.same("a later save replaces it", x.restore(0), 9);
        Check.same("the text stays", x.clearText(), 1);
    }

    private static CableLanding inTheMiddle() {
        CableLanding x = Check.loaded("C220500z1200994z2003709s05005410s06009720w3245");
        x.take(0, 20);
        x.take(1, 60);
        x.send(0);
        x.pass(2);
        x.send(1);
        x.pass(3);
        x.recall(0);
        return x;
    }

    private static void restoreInTheMiddle() {
        for (int day = 1; day <= 20; day++) {
            CableLanding x = inTheMiddle();
            x.pass(day);
            x.save(day % 2);
            String before = Check.all(x);
            x.setWaves(day % 4, day % 10);
            x.extend(1, 20);
            x.pass(3);
            x.restore(day % 2);
            Check.unchanged("save and restore", x, before);
        }
    }
}
