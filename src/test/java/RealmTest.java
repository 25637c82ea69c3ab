/** Promises 1 to 6, 12, 13, 36: a new object, what is told of it, orders and buildings by hand. */
public final class RealmTest {
    private RealmTest() {
    }

    public static void main(String[] args) {
        newObject();
        state();
        subject();
        set();
        order();
        builds();
        place();
        of();
        look();
        Check.close("RealmTest");
    }

    private static void newObject() {
        LateOrders x = new LateOrders();
        for (int what = 0; what <= 14; what++) {
            Check.due("new look(" + what + ")", x.look(what), 0);
        }
        for (int place = 0; place < 12; place++) {
            int[] due = {5, 0, 0, 0, 0, 3};
            for (int what = 0; what < due.length; what++) {
                Check.due("new place(" + place + ", " + what + ")", x.place(place, what), due[what]);
            }
        }
        Check.due("new of", x.of(0, 0), -1);
        Check.due("new book", x.book(0, 0), -2);
        Check.due("new fault(0)", x.fault(0), 0);
        Check.due("new fault(1)", x.fault(1), -1);
        Check.due("new undo", x.undo(), false);
        Check.due("new image(false)", x.image(false), false);
        Check.due("new end(0)", x.end(0), true);
        Check.due("new end(1)", x.end(1), false);
        Check.due("new together(0)", x.together(0), 0);
        Check.due("new cross(0)", x.cross(0), 0);
        Check.due("new queue(1, 1)", x.queue(1, 1), 0);
        Check.due("new wrong", x.wrong(1023, 10, -2), 10);
        Check.due("NONE", LateOrders.NONE, -1);
    }

    private static void state() {
        LateOrders x = new LateOrders();
        Check.due("state", x.state(77), 0);
        Check.due("state again", x.state(Integer.MIN_VALUE), 77);
        Check.due("state as it is", x.look(9), Integer.MIN_VALUE);
        Check.due("state -1", x.state(-1), Integer.MIN_VALUE);
        Check.due("look at -1", x.look(9), -1);
    }

    private static void subject() {
        LateOrders x = new LateOrders();
        int[][] wrong = {{-1, 0}, {12, 0}, {0, -1}, {0, 10}, {Integer.MAX_VALUE, 0}, {0, Integer.MIN_VALUE}};
        for (int[] w : wrong) {
            Check.due("subject(" + w[0] + ", " + w[1] + ")", x.subject(w[0], w[1]), -1);
        }
        Check.due("none came", x.look(0), 0);
        for (int i = 0; i < 18; i++) {
            Check.due("subject " + i, x.subject(i % 12, i % 10), i);
        }
        Check.due("the nineteenth", x.subject(0, 0), -1);
        Check.due("eighteen", x.look(0), 18);
        Check.due("all alive", x.look(1), (1 << 18) - 1);
        Check.due("the last one's place", x.of(17, 0), 5);
        Check.due("the last one's zeal", x.of(17, 1), 7);
        Check.due("two at 5", x.place(5, 3), 1 << 5 | 1 << 17);
    }

    private static void set() {
        LateOrders x = new LateOrders();
        x.subject(3, 2);
        int[] most = {9, 99, 99, 9, 99, 9};
        for (int what = 0; what <= 5; what++) {
            int who = what < 3 ? 11 : what < 5 ? 0 : -7;
            String call = "set(" + what + ", " + who;
            Check.due(call + ", most + 1)", x.set(what, who, most[what] + 1), false);
            Check.due(call + ", -1)", x.set(what, who, -1), false);
            Check.due(call + ", most)", x.set(what, who, most[what]), true);
            int now = what < 3 ? x.place(11, what) : what < 5 ? x.of(0, what - 2) : x.look(2);
            Check.due(call + ", most) is", now, most[what]);
            Check.due(call + ", 0)", x.set(what, who, 0), true);
            now = what < 3 ? x.place(11, what) : what < 5 ? x.of(0, what - 2) : x.look(2);
            Check.due(call + ", 0) is", now, 0);
            if (what < 5) {
                Check.due("set of none", x.set(what, -1, 0), false);
                Check.due("set beyond", x.set(what, what < 3 ? 12 : 1, 0), false);
            }
        }
        Check.due("set another", x.set(6, 0, 0), false);
        Check.due("set another", x.set(-1, 0, 0), false);
        Check.due("other places stay", x.place(10, 0), 5);
    }

    private static void order() {
        LateOrders x = new LateOrders();
        Check.due("to nobody", x.order(4, 0, 0, false), -1);
        x.subject(0, 9);
        x.subject(1, 9);
        int[][] wrong = {{-1, 0, 0}, {6, 0, 0}, {4, -1, 0}, {4, 2, 0}, {0, 0, -1}, {0, 0, 12}};
        for (int[] w : wrong) {
            Check.due("order(" + w[0] + ", " + w[1] + ", " + w[2] + ")", x.order(w[0], w[1], w[2], false), -1);
        }
        Check.due("stop that goes on", x.order(5, 0, 0, true), -1);
        Check.due("none given", x.look(6), 0);
        for (int i = 1; i <= 24; i++) {
            Check.due("order " + i, x.order(i % 6, i % 2, i % 6 == 0 ? 11 : -99, i % 6 != 5), i);
        }
        Check.due("the 25th", x.order(4, 0, 0, false), -1);
        Check.due("24 given", x.look(6), 24);
        Check.due("none of yesterday", x.look(7), 0);
        x.days(1);
        Check.due("none given now", x.look(6), 0);
        Check.due("24 of yesterday", x.look(7), 24);
        Check.due("the first of a new day", x.order(4, 0, 0, false), 1);
        x.set(5, 0, 6);
        x.set(0, 1, 9);
        x.days(1);
        Check.due("0 drowned", x.look(1), 2);
        Check.due("to one drowned", x.order(4, 0, 0, false), -1);
        Check.due("to one alive", x.order(4, 1, 0, false), 1);
    }

    private static void builds() {
        LateOrders x = new LateOrders();
        Check.due("builds(-1)", x.builds(-1), -1);
        Check.due("builds(12)", x.builds(12), -1);
        Check.due("builds(11)", x.builds(11), 1);
        Check.due("builds(11) again", x.builds(11), 2);
        Check.due("its wall", x.place(11, 2), 2);
        Check.due("another wall", x.place(10, 2), 0);
        x.set(2, 11, 98);
        Check.due("builds the last", x.builds(11), 99);
        Check.due("builds no more", x.builds(11), -1);
        Check.due("the wall at its most", x.place(11, 2), 99);
    }

    private static void place() {
        LateOrders x = new LateOrders();
        x.subject(4, 0);
        x.subject(4, 0);
        x.set(0, 4, 7);
        x.set(1, 4, 55);
        x.set(2, 4, 66);
        Check.reads(x, 3, "place 4 road 0; place 11 road 4;", 2);
        Check.reads(x, 0, "grows fire+wall+high when crowd=2; grows 200;", 2);
        int[] due = {7, 55, 66, 3, 1 | 1 << 11, 99};
        for (int what = 0; what < 6; what++) {
            Check.due("place(4, " + what + ")", x.place(4, what), due[what]);
        }
        Check.due("either way", x.place(11, 4), 1 << 4);
        Check.due("place(-1, 0)", x.place(-1, 0), -1);
        Check.due("place(12, 0)", x.place(12, 0), -1);
        Check.due("place(0, 6)", x.place(0, 6), -1);
        Check.due("place(0, -1)", x.place(0, -1), -1);
        x.set(0, 4, 0);
        x.set(5, 0, 9);
        x.set(2, 4, 0);
        x.days(1);
        Check.due("none alive at 4", x.place(4, 3), 0);
    }

    private static void of() {
        LateOrders x = new LateOrders();
        x.subject(6, 3);
        x.set(4, 0, 10);
        int[] due = {6, 3, 10, 1, 0, -1, 600, 5};
        for (int what = 0; what < 8; what++) {
            Check.due("of(0, " + what + ")", x.of(0, what), due[what]);
        }
        Check.due("of(0, 8)", x.of(0, 8), -1);
        Check.due("of(0, -1)", x.of(0, -1), -1);
        Check.due("of(1, 0)", x.of(1, 0), -1);
        Check.due("of(-1, 0)", x.of(-1, 0), -1);
        Check.reads(x, 0, "obeys 100*what; tires what+zeal;", 2);
        Check.due("obeys as of standing", x.of(0, 6), 400);
        Check.due("tires as of standing", x.of(0, 7), 7);
        Check.reads(x, 0, "obeys 1001; tires 0-1;", 2);
        Check.due("obeys at most", x.of(0, 6), 1000);
        Check.due("tires at least", x.of(0, 7), 0);
        Check.reads(x, 0, "obeys 0-1; tires 100;", 2);
        Check.due("obeys at least", x.of(0, 6), 0);
        Check.due("tires at most", x.of(0, 7), 99);
        Check.reads(x, 0, "", 0);
        x.set(3, 0, 9);
        x.set(4, 0, 0);
        Check.due("usual, most", x.of(0, 6), 950);
        x.set(3, 0, 0);
        x.set(4, 0, 99);
        Check.due("usual, least", x.of(0, 6), 5);
    }

    private static void look() {
        LateOrders x = new LateOrders();
        x.subject(0, 9);
        x.subject(1, 9);
        x.subject(2, 9);
        Check.reads(x, 1, "on 0 order 0 rest;", 1);
        Check.reads(x, 2, "on 5 sea 5; on 5 sea 5;", 2);
        Check.reads(x, 3, "place 0 road 1; place 0 road 1; place 0 road 2;", 3);
        Check.reads(x, 0, "obeys 0; tires 1; tires 2; grows 3;", 4);
        x.set(5, 0, 7);
        x.set(0, 0, 7);
        x.set(2, 2, 70);
        x.state(-5);
        x.order(4, 0, 0, false);
        x.order(4, 1, 0, false);
        int[] before = {3, 7, 7, 0, 0, 0, 2, 0, 0, -5, 4, 1, 2, 3, 2};
        for (int what = 0; what < before.length; what++) {
            Check.due("look(" + what + ")", x.look(what), before[what]);
        }
        x.days(1);
        int[] after = {3, 5, 7, 1, 0, 1, 0, 3, 1, -5, 4, 1, 2, 3, 3};
        for (int what = 0; what < after.length; what++) {
            Check.due("then look(" + what + ")", x.look(what), after[what]);
        }
        x.days(1);
        Check.due("missed", x.look(4), 2);
        Check.due("no draw for none likely", x.look(9), -5);
        Check.due("look(15)", x.look(15), -1);
        Check.due("look(-1)", x.look(-1), -1);
    }
}
