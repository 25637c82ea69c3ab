/** Promises 34 and 35: UNDO and THE IMAGE. */
public final class UndoTest {
    private UndoTest() {
    }

    public static void main(String[] args) {
        each();
        sixAreKept();
        forgets();
        keeps();
        lawAndThoughtsStay();
        imageOfAll();
        imageLeaves();
        Check.close("UndoTest");
    }

    private static LateOrders duchy() {
        LateOrders x = new LateOrders();
        x.subject(0, 5);
        x.subject(1, 5);
        Check.reads(x, 3, "place 0 road 1;place 1 road 2;", 2);
        return x;
    }

    /** What there is to look at, but for what can be undone, in one number: few calls, as an object has 512 alone. */
    private static long all(LateOrders x) {
        long sum = 7;
        for (int what = 0; what < 14; what++) {
            sum = sum * 31 + x.look(what);
        }
        for (int place = 0; place < 8; place++) {
            for (int what = place < 4 ? 1 : 0; what < (place < 4 ? 4 : 1); what++) {
                sum = sum * 31 + x.place(place, what);
            }
        }
        for (int who = 0; who < 2; who++) {
            for (int what = 0; what < 6; what++) {
                sum = sum * 31 + x.of(who, what);
            }
        }
        for (int line = 0; line < 4; line++) {
            sum = sum * 31 + x.book(line, 0) + 1000 * x.book(line, 3);
        }
        return sum;
    }

    private static void each() {
        LateOrders x = duchy();
        Check.due("nothing", x.undo(), false);
        long first = all(x);
        x.builds(3);
        Check.due("one", x.look(14), 1);
        Check.due("a building", x.undo(), true);
        Check.due("as it was", all(x), first);
        Check.due("none left", x.undo(), false);
        x.order(0, 0, 2, true);
        Check.due("an order", x.undo(), true);
        Check.due("as it was", x.look(6), 0);
        x.set(5, 0, 6);
        x.set(0, 0, 9);
        x.set(0, 2, 9);
        x.set(1, 4, 50);
        x.set(4, 0, 3);
        x.order(0, 0, 2, true);
        long ordered = all(x);
        Check.due("days", x.days(1), 0);
        long night = all(x);
        Check.due("1 drowned", x.look(1), 1);
        x.days(2);
        Check.due("two draws or one", x.look(9) != 0, true);
        Check.due("a day", x.undo(), true);
        Check.due("another day", x.undo(), true);
        Check.due("the night", all(x), night);
        Check.due("state", x.look(9), 0);
        Check.due("his standing", x.of(0, 5), -1);
        Check.due("the first day", x.undo(), true);
        Check.due("the order stays", all(x), ordered);
        Check.due("1 is alive", x.of(1, 3), 1);
        Check.due("no line", x.book(0, 0), -2);
        Check.due("the order", x.undo(), true);
        Check.due("no order", x.look(6), 0);
        Check.due("no more", x.undo(), false);
        // What was done once more comes out alike.
        x.order(0, 0, 2, true);
        x.days(1);
        Check.due("the night again", all(x), night);
    }

    private static void sixAreKept() {
        LateOrders x = duchy();
        for (int i = 0; i < 4; i++) {
            x.builds(5);
        }
        Check.due("four", x.look(14), 4);
        x.order(4, 0, 0, false);
        Check.due("five", x.look(14), 5);
        x.days(4);
        Check.due("six", x.look(14), 6);
        for (int i = 0; i < 4; i++) {
            Check.due("undo day", x.undo(), true);
            Check.due("day", x.look(5), 3 - i);
        }
        Check.due("two left", x.look(14), 2);
        Check.due("the order", x.undo(), true);
        Check.due("orders", x.look(6), 0);
        Check.due("a building", x.undo(), true);
        Check.due("wall", x.place(5, 2), 3);
        Check.due("no seventh", x.undo(), false);
        Check.due("wall stays", x.place(5, 2), 3);
        x.days(60);
        Check.due("six of sixty", x.look(14), 6);
        x.undo();
        x.builds(5);
        Check.due("six again", x.look(14), 6);
        for (int i = 0; i < 6; i++) {
            Check.due("undo", x.undo(), true);
        }
        Check.due("day 54", x.look(5), 54);
        Check.due("no more", x.undo(), false);
    }

    private static void forgotten(String what, LateOrders x) {
        Check.due(what + " forgets", x.look(14), 0);
        Check.due("no undo behind " + what, x.undo(), false);
        x.builds(0);
        x.builds(0);
        Check.due("two", x.look(14), 2);
    }

    private static void forgets() {
        LateOrders x = duchy();
        x.builds(0);
        x.state(0);
        forgotten("state", x);
        x.subject(0, 0);
        forgotten("subject", x);
        for (int what = 0; what < 6; what++) {
            x.set(what, 0, 0);
            forgotten("set " + what, x);
        }
        x.text(1);
        forgotten("ledger", x);
        x.text(2);
        forgotten("tide", x);
        x.text(3);
        forgotten("roads", x);
        Check.reads(x, 2, "on 0 sea 1;", 1);
        forgotten("tide", x);
        x.image(true);
        Check.due("an image taken does not", x.look(14), 2);
        x.builds(0);
        x.image(false);
        forgotten("an image gone back to", x);
    }

    private static void keeps() {
        LateOrders x = duchy();
        x.builds(0);
        int day = x.look(5);
        Check.due("no image", x.image(false), false);
        x.subject(12, 0);
        x.set(0, 0, 10);
        x.set(6, 0, 0);
        x.order(5, 0, 0, true);
        x.builds(12);
        x.days(61);
        x.text(4);
        Check.faulty(x, 1, "on", 1, 2);
        Check.faulty(x, 2, "on", 1, 2);
        Check.faulty(x, 3, "place", 1, 5);
        Check.faulty(x, 0, "obeys", 1, 5);
        Check.reads(x, 0, "obeys 1;", 1);
        x.feed(1, 1, 1, 1, 1);
        x.end(3);
        x.prophet(1);
        x.prophet(-1);
        x.spell(1);
        x.spell(-1);
        x.comer(1, 1);
        x.comer(-1, 1);
        x.letter(1, 2);
        x.letter(-1, 2);
        x.goes(3, 0);
        x.arrives(0, 0);
        Check.due("what can be undone stays", x.look(14), 1);
        Check.due("day", x.look(5), day);
        Check.due("undo", x.undo(), true);
        Check.due("wall", x.place(0, 2), 0);
    }

    private static void lawAndThoughtsStay() {
        LateOrders x = duchy();
        x.builds(0);
        Check.reads(x, 0, "obeys 77;grows 7;", 2);
        x.prophet(1023);
        x.spell(12);
        x.comer(3, 4);
        x.letter(1, 2);
        Check.due("undo", x.undo(), true);
        Check.due("law", x.look(10), 2);
        Check.due("obeys", x.of(0, 6), 77);
        Check.due("prophet", x.wrong(0, 10, 0), 10);
        Check.due("word", x.together(0), 2);
        Check.due("comer", x.queue(1, 1), 7);
        Check.due("letter", x.cross(1), 1);
        Check.due("ledger, tide, roads", x.look(13), 2);
    }

    private static void imageOfAll() {
        LateOrders x = duchy();
        Check.reads(x, 0, "obeys 1000;grows 7;", 2);
        Check.reads(x, 1, "on 1 order 1 build;", 1);
        Check.reads(x, 2, "on 1 fire 3 9;", 1);
        x.prophet(1023);
        x.spell(12);
        x.comer(3, 4);
        x.letter(1, 2);
        x.set(0, 7, 3);
        x.set(5, 0, 2);
        x.state(99);
        x.order(0, 0, 2, true);
        x.days(3);
        x.order(1, 1, 0, false);
        long was = all(x);
        Check.due("taken", x.image(true), true);
        for (int turn = 0; turn < 2; turn++) {
            x.subject(5, 5);
            x.set(3, 0, 9);
            x.set(0, 7, 9);
            x.set(2, 7, 9);
            x.set(5, 0, 6);
            x.days(2);
            x.state(5);
            for (int k = 0; k < 4; k++) {
                x.text(k);
            }
            x.prophet(-1);
            x.spell(-1);
            x.comer(-1, 0);
            x.letter(-1, 0);
            Check.due("other", all(x) != was, true);
            Check.due("gone back", x.image(false), true);
            Check.due("as it was", all(x), was);
            Check.due("nothing can be undone", x.look(14), 0);
            Check.due("nor is", x.undo(), false);
            Check.due("prophet", x.wrong(0, 10, 0), 10);
            Check.due("word", x.together(0), 2);
            Check.due("comer", x.queue(1, 1), 7);
            Check.due("letter", x.cross(1), 1);
            Check.due("obeys", x.of(0, 6), 1000);
            Check.due("goes on: a day", x.days(1), 1);
            Check.due("and another", x.days(1), 2);
            Check.due("he is there", x.of(0, 0), 2);
            Check.due("the ledger is past", x.place(1, 2), 3);
        }
        x.image(false);
        x.builds(9);
        x.image(true);
        x.builds(9);
        x.undo();
        x.undo();
        Check.due("undo goes past the image", x.place(9, 2), 0);
        x.image(false);
        Check.due("the later image", x.place(9, 2), 1);
    }

    private static void imageLeaves() {
        LateOrders x = duchy();
        Check.faulty(x, 0, "obeys 1/0;", 2, 8);
        Check.lay(x, "tires 1;");
        x.image(true);
        Check.due("the tape is as it was", x.text(0), 1);
        Check.due("it was told", x.of(0, 7), 1);
        Check.faulty(x, 0, "obeys 1; 5", 1, 9);
        Check.lay(x, "grows 8;");
        Check.due("gone back", x.image(false), true);
        Check.due("the fault stays", x.fault(1), 9);
        Check.due("no law", x.look(10), 0);
        Check.due("the tape stays", x.text(0), 1);
        Check.due("grows", x.place(0, 5), 8);
    }
}
