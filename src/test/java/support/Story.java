/**
 * What an object shows, and what it remembers behind that. Whether a call changes nothing is told by two objects made
 * alike, one with the call and one without it, as asking one object twice would take more than its 512 calls.
 */
final class Story {
    interface Maker {
        CableLanding make();
    }

    interface Call {
        long run(CableLanding x);
    }

    interface With {
        long run(CableLanding x, int number);
    }

    private Story() {
    }

    static void noThing(String what, Maker maker, Call call) {
        refused(what, IndexOutOfBoundsException.class, maker, call);
    }

    static void noRange(String what, Maker maker, Call call) {
        refused(what, IllegalArgumentException.class, maker, call);
    }

    static void notNow(String what, Maker maker, Call call) {
        refused(what, IllegalStateException.class, maker, call);
    }

    static void refused(String what, Class<? extends Exception> kind, Maker maker, Call call) {
        CableLanding x = maker.make();
        Check.fails(what, kind, () -> call.run(x));
        Check.isTrue(what + " changes nothing", of(x).equals(of(maker.make())));
    }

    static void changesNothing(String what, Maker maker, Call call) {
        CableLanding x = maker.make();
        call.run(x);
        Check.isTrue(what + " changes nothing", of(x).equals(of(maker.make())));
    }

    /** The least and the greatest number are taken, those beside them and the ends of all ints are not. */
    static void onlyFrom(int least, int greatest, Class<? extends Exception> kind, Maker maker, With call) {
        for (int number : new int[] {least, greatest}) {
            CableLanding x = maker.make();
            Check.passes("with " + number, () -> call.run(x, number));
        }
        for (int number : new int[] {least - 1, greatest + 1, Integer.MIN_VALUE, Integer.MAX_VALUE}) {
            refused("with " + number, kind, maker, x -> call.run(x, number));
        }
    }

    /** What stands now, and how it goes on; in few calls, for an object with two zones and two ships. */
    static String view(CableLanding x) {
        StringBuilder row = numbers(x);
        for (int day = 0; day < 4; day++) {
            row.append(x.waves(day)).append(' ');
        }
        for (int what = 0; what <= 4; what++) {
            row.append(x.ahead(9, what)).append(' ');
        }
        return row.toString();
    }

    /** What about, account, zone and ship tell. */
    static StringBuilder numbers(CableLanding x) {
        StringBuilder row = new StringBuilder();
        for (int what = 0; what <= 13; what++) {
            row.append(x.about(what)).append(' ');
        }
        for (int what = 0; what <= 7; what++) {
            row.append(x.account(what)).append(' ');
        }
        for (int z = 0; z < x.about(0); z++) {
            for (int what = 0; what <= 4; what++) {
                row.append(x.zone(z, what)).append(' ');
            }
        }
        for (int s = 0; s < x.about(1); s++) {
            for (int what = 0; what <= 7; what++) {
                row.append(x.ship(s, what)).append(' ');
            }
        }
        return row;
    }

    /** What stands now, what is remembered, what the slots and the text hold. The object is used up by it. */
    static String of(CableLanding x) {
        StringBuilder row = new StringBuilder(view(x));
        for (int i = 0; i < 20; i++) {
            try {
                row.append("\nundo ").append(x.undo()).append(": ").append(view(x));
            } catch (IllegalStateException e) {
                break;
            }
        }
        for (int slot = 0; slot < 2; slot++) {
            try {
                row.append("\nslot ").append(x.restore(slot)).append(": ").append(view(x));
            } catch (IllegalStateException e) {
                row.append("\nno slot ").append(slot);
            }
        }
        row.append("\ntext ").append(x.errorPosition());
        try {
            row.append(" for ").append(x.load()).append(": ").append(view(x));
        } catch (IllegalStateException e) {
            row.append(" is wrong");
        }
        return row.append("\nlength ").append(x.clearText()).toString();
    }
}
