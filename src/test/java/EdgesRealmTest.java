/** The edges that part 1 of the document names, and those of promises 1 to 6, 12, 13 and 36. */
public final class EdgesRealmTest {
    private static final int MIN = Integer.MIN_VALUE;
    private static final int MAX = Integer.MAX_VALUE;

    private EdgesRealmTest() {
    }

    public static void main(String[] args) {
        atFirst();
        aSubjectAtFirst();
        stateIsAnyInt();
        places();
        zeal();
        eighteen();
        settings();
        settingsOfAll();
        settingOfTheDrowned();
        ordersThatCant();
        placeIsAskedOfMarchAlone();
        twentyFour();
        walls();
        whats();
        Check.close("EdgesRealmTest");
    }

    /** Promise 1: a duchy without subjects; all as it is "at first". */
    private static void atFirst() {
        LateOrders x = new LateOrders();
        int[] place = {5, 0, 0, 0, 0, 3};
        for (int p = 0; p < 12; p++) {
            for (int what = 0; what < 6; what++) {
                Check.due("at first place(" + p + ", " + what + ")", x.place(p, what), place[what]);
            }
        }
        for (int what = 0; what <= 14; what++) {
            Check.due("at first look(" + what + ")", x.look(what), 0);
        }
        for (int who = 0; who < 18; who++) {
            Check.due("at first of(" + who + ", 3)", x.of(who, 3), -1);
        }
        Check.due("at first no line", x.book(0, 0), -2);
        Check.due("at first no FAULT", x.fault(0), 0);
        Check.due("at first no place of one", x.fault(1), -1);
        Check.due("at first nothing to undo", x.undo(), false);
        Check.due("at first no image", x.image(false), false);
        Check.due("at first the TAPE is empty", x.end(1), false);
        for (int k = 0; k < 4; k++) {
            Check.due("TEXTS are empty at first: " + k, x.look(10 + k), 0);
        }
        Check.due("no prophets at first", x.wrong(1, 1, 0), -1);
        Check.due("no words at first", x.together(0), 0);
        Check.due("no comers at first", x.queue(1, 1), 0);
        Check.due("no letters at first", x.cross(1), 0);
        Check.due("NONE", LateOrders.NONE, -1);
    }

    /** TIRED 0, ALIVE, DONE 0, STANDING NONE at first: of the first SUBJECT and of the last. */
    private static void aSubjectAtFirst() {
        LateOrders x = new LateOrders();
        for (int who = 0; who < 18; who++) {
            x.subject(who % 12, 9 - who % 10);
        }
        for (int who = 0; who < 18; who++) {
            int[] due = {who % 12, 9 - who % 10, 0, 1, 0, -1, 500 + 50 * (9 - who % 10), 5};
            for (int what = 0; what < 8; what++) {
                Check.due("of(" + who + ", " + what + ")", x.of(who, what), due[what]);
            }
        }
    }

    /** STATE is an int, whichever. */
    private static void stateIsAnyInt() {
        LateOrders x = new LateOrders();
        int[] states = {MAX, MIN, -1, 0, 1, 0x7fffff00, 0xff};
        int was = 0;
        for (int state : states) {
            Check.due("state(" + state + ")", x.state(state), was);
            Check.due("look(9)", x.look(9), state);
            was = state;
        }
    }

    /** PLACES 0 .. 11. */
    private static void places() {
        int[] none = {-1, 12, -12, 13, MIN, MAX};
        for (int p : none) {
            LateOrders x = new LateOrders();
            x.subject(0, 0);
            Check.due("subject(" + p + ", 0)", x.subject(p, 0), -1);
            Check.due("still one", x.look(0), 1);
            for (int what = 0; what < 3; what++) {
                Check.due("set(" + what + ", " + p + ", 1)", x.set(what, p, 1), false);
            }
            Check.due("march to " + p, x.order(0, 0, p, false), -1);
            Check.due("builds(" + p + ")", x.builds(p), -1);
            for (int what = 0; what < 6; what++) {
                Check.due("place(" + p + ", " + what + ")", x.place(p, what), -1);
            }
            Check.due("arrives(0, " + p + ")", x.arrives(0, p), -1);
            Check.due("caught(" + p + ", 0)", x.caught(p, 0), -1);
            Check.due("caught(" + p + ", -1)", x.caught(p, -1), -1);
            Check.due("caught(0, " + p + ")", x.caught(0, p), p == -1 ? 1 : -1);
        }
        for (int p = 0; p < 12; p++) {
            LateOrders x = new LateOrders();
            Check.due("subject(" + p + ", 0)", x.subject(p, 0), 0);
            Check.due("he is there", x.of(0, 0), p);
            for (int q = 0; q < 12; q++) {
                Check.due("who is at " + q, x.place(q, 3), p == q ? 1 : 0);
            }
            for (int what = 0; what < 3; what++) {
                Check.due("set(" + what + ", " + p + ", 1)", x.set(what, p, 1), true);
                for (int q = 0; q < 12; q++) {
                    Check.due("of " + p + " alone: " + q, x.place(q, what), p == q ? 1 : what == 0 ? 5 : 0);
                }
            }
            Check.due("march to " + p, x.order(0, 0, p, false), 1);
            Check.due("builds(" + p + ")", x.builds(p), 2);
            Check.due("arrives(0, " + p + ")", x.arrives(0, p), 0);
            Check.due("caught(" + p + ", " + p + ")", x.caught(p, p), 0);
        }
    }

    /** ZEAL 0 .. 9. */
    private static void zeal() {
        LateOrders x = new LateOrders();
        int[] none = {-1, 10, MIN, MAX};
        for (int z : none) {
            Check.due("subject(0, " + z + ")", x.subject(0, z), -1);
        }
        Check.due("nobody came", x.look(0), 0);
        Check.due("subject(0, 0)", x.subject(0, 0), 0);
        Check.due("subject(0, 9)", x.subject(0, 9), 1);
        Check.due("zeal 0", x.of(0, 1), 0);
        Check.due("zeal 9", x.of(1, 1), 9);
    }

    /** SUBJECTS 0 .. 17 as they come; NONE if there are eighteen, drowned ones too. */
    private static void eighteen() {
        LateOrders x = new LateOrders();
        for (int who = 0; who < 17; who++) {
            Check.due("subject " + who, x.subject(11, 9), who);
            Check.due("how many", x.look(0), who + 1);
            Check.due("not yet " + (who + 1), x.of(who + 1, 0), -1);
        }
        x.set(5, 0, 6);
        x.days(1);
        Check.due("seventeen drowned", x.look(3), 17);
        Check.due("they are SUBJECTS still", x.look(0), 17);
        Check.due("the eighteenth", x.subject(11, 9), 17);
        Check.due("he alone is alive", x.look(1), 1 << 17);
        Check.due("at 11", x.place(11, 3), 1 << 17);
        Check.due("a nineteenth", x.subject(0, 0), -1);
        Check.due("eighteen", x.look(0), 18);
        Check.due("of(17, 0)", x.of(17, 0), 11);
        Check.due("of(18, 0)", x.of(18, 0), -1);
        Check.due("order to the last one", x.order(0, 17, 0, true), 1);
        Check.due("order to none such", x.order(4, 18, 0, false), -1);
    }

    private static int now(LateOrders x, int what, int who) {
        return what < 3 ? x.place(who, what) : what < 5 ? x.of(who, what - 2) : x.look(2);
    }

    /** HIGH 0 .. 9, FIRE 0 .. 99, WALL 0 .. 99, ZEAL 0 .. 9, TIRED 0 .. 99, SEA 0 .. 9: either side; what is refused stays. */
    private static void settings() {
        int[] most = {9, 99, 99, 9, 99, 9};
        for (int what = 0; what < 6; what++) {
            LateOrders x = new LateOrders();
            x.subject(0, 4);
            x.subject(0, 4);
            int who = what < 3 ? 11 : 1;
            String call = "set(" + what + ", " + who + ", ";
            int[] cant = {-1, most[what] + 1, MIN, MAX};
            int[] can = {0, 1, most[what] - 1, most[what]};
            for (int v : can) {
                Check.due(call + v + ")", x.set(what, who, v), true);
                Check.due(call + v + ") is", now(x, what, who), v);
                for (int w : cant) {
                    Check.due(call + w + ")", x.set(what, who, w), false);
                    Check.due(call + w + ") stays", now(x, what, who), v);
                }
            }
        }
        LateOrders x = new LateOrders();
        int[] others = {-1, 6, 7, MIN, MAX};
        for (int what : others) {
            Check.due("set(" + what + ", 0, 0)", x.set(what, 0, 0), false);
        }
        int[] anyone = {-1, 12, 18, MIN, MAX};
        for (int who : anyone) {
            Check.due("SEA, who not asked: " + who, x.set(5, who, 9), true);
            Check.due("SEA is", x.look(2), 9);
            Check.due("SEA is beyond: " + who, x.set(5, who, 10), false);
            Check.due("SEA again", x.set(5, who, 0), true);
        }
    }

    /** Each PLACE and each SUBJECT has its own. */
    private static void settingsOfAll() {
        LateOrders x = new LateOrders();
        for (int who = 0; who < 18; who++) {
            x.subject(0, 0);
        }
        for (int p = 0; p < 12; p++) {
            x.set(0, p, p % 10);
            x.set(1, p, 40 + p);
            x.set(2, p, 60 + p);
        }
        for (int who = 0; who < 18; who++) {
            Check.due("ZEAL of " + who, x.set(3, who, who % 10), true);
            Check.due("TIRED of " + who, x.set(4, who, 70 + who), true);
        }
        int[] nobody = {-1, 18, MIN, MAX};
        for (int who : nobody) {
            Check.due("ZEAL of none such", x.set(3, who, 0), false);
            Check.due("TIRED of none such", x.set(4, who, 0), false);
            for (int what = 0; what < 8; what++) {
                Check.due("of(" + who + ", " + what + ")", x.of(who, what), -1);
            }
        }
        for (int p = 0; p < 12; p++) {
            Check.due("HIGH of " + p, x.place(p, 0), p % 10);
            Check.due("FIRE of " + p, x.place(p, 1), 40 + p);
            Check.due("WALL of " + p, x.place(p, 2), 60 + p);
        }
        for (int who = 0; who < 18; who++) {
            Check.due("ZEAL of " + who, x.of(who, 1), who % 10);
            Check.due("TIRED of " + who, x.of(who, 2), 70 + who);
        }
    }

    /** A SUBJECT who is not ALIVE is one still: set and of take him, order and arrives don't. */
    private static void settingOfTheDrowned() {
        LateOrders x = new LateOrders();
        x.subject(3, 4);
        x.order(2, 0, 0, true);
        x.set(5, 0, 6);
        x.days(1);
        Check.due("drowned", x.of(0, 3), 0);
        Check.due("his ZEAL can be set", x.set(3, 0, 9), true);
        Check.due("his TIRED can be set", x.set(4, 0, 9), true);
        Check.due("his obeys is told", x.of(0, 6), 500 + 450 - 45);
        Check.due("where he lies", x.of(0, 0), 3);
        Check.due("but he is not at it", x.place(3, 3), 0);
        for (int what = 0; what < 6; what++) {
            Check.due("no ORDER to him: " + what, x.order(what, 0, 0, false), -1);
        }
        Check.due("none given", x.look(6), 0);
        Check.due("arrives, where he lies", x.arrives(0, 3), -1);
    }

    /** what 0 .. 5, who a SUBJECT that is ALIVE, stop does not go on. */
    private static void ordersThatCant() {
        LateOrders x = new LateOrders();
        for (int what = 0; what < 6; what++) {
            Check.due("to nobody", x.order(what, 0, 0, false), -1);
        }
        x.subject(0, 0);
        x.subject(0, 0);
        int[] whats = {-1, 6, 10, MIN, MAX};
        for (int what : whats) {
            Check.due("order(" + what + ", 0, 0, false)", x.order(what, 0, 0, false), -1);
        }
        int[] nobody = {-1, 2, 18, MIN, MAX};
        for (int who : nobody) {
            for (int what = 0; what < 6; what++) {
                Check.due("order(" + what + ", " + who + ", 0, false)", x.order(what, who, 0, false), -1);
            }
        }
        Check.due("a stop that goes on", x.order(5, 1, 0, true), -1);
        Check.due("none was given", x.look(6), 0);
        Check.due("nothing to undo", x.look(14), 0);
        int given = 0;
        for (int what = 0; what < 6; what++) {
            given++;
            Check.due("order(" + what + ", 1, 11, false)", x.order(what, 1, 11, false), given);
            if (what < 5) {
                given++;
                Check.due("order(" + what + ", 1, 0, true)", x.order(what, 1, 0, true), given);
            }
        }
        Check.due("eleven", x.look(6), 11);
    }

    /** where: march's PLACE, else not asked (and 0 of a STANDING). */
    private static void placeIsAskedOfMarchAlone() {
        int[] anywhere = {-1, 12, 7, MIN, MAX};
        for (int where : anywhere) {
            LateOrders x = new LateOrders();
            for (int who = 0; who < 6; who++) {
                x.subject(0, 9);
            }
            Check.reads(x, 0, "obeys 0;", 1);
            for (int what = 1; what < 6; what++) {
                Check.due("order(" + what + ", .., " + where + ")", x.order(what, what, where, what < 5), what);
            }
            x.days(2);
            for (int what = 1; what < 5; what++) {
                Check.due("its STANDING", x.of(what, 5), what);
            }
            Check.due("of stop none", x.of(5, 5), -1);
        }
        for (int where = 0; where < 12; where++) {
            LateOrders x = new LateOrders();
            x.subject(where, 0);
            Check.reads(x, 0, "obeys 0;", 1);
            Check.due("order(0, 0, " + where + ", true)", x.order(0, 0, where, true), 1);
            x.days(2);
            Check.due("STANDING to " + where, x.of(0, 5), 10 * where);
        }
    }

    /** ORDERS of today: 24 at most, none at first; then as many again on the next day. */
    private static void twentyFour() {
        LateOrders x = new LateOrders();
        x.subject(0, 0);
        x.subject(0, 0);
        Check.reads(x, 0, "obeys 1000;tires 0;", 2);
        for (int day = 0; day < 2; day++) {
            for (int i = 1; i <= 24; i++) {
                Check.due("the order " + i, x.order(2, i % 2, 0, false), i);
                Check.due("given", x.look(6), i);
            }
            Check.due("the 25th", x.order(2, 0, 0, false), -1);
            Check.due("a stop beyond them", x.order(5, 0, 0, false), -1);
            Check.due("24 given", x.look(6), 24);
            Check.due("what can be undone", x.look(14), 6);
            Check.due("days", x.days(1), day * 24);
            Check.due("none given", x.look(6), 0);
            Check.due("of yesterday", x.look(7), 24);
        }
        Check.due("wall", x.place(0, 2), 72);
        Check.due("days", x.days(1), 24);
        Check.due("wall at most", x.place(0, 2), 99);
        Check.due("none of yesterday", x.look(7), 0);
        Check.due("done by 0", x.of(0, 4), 24);
        Check.due("done by 1", x.of(1, 4), 24);
    }

    /** builds: 98 becomes 99; 99 is NONE and stays. */
    private static void walls() {
        LateOrders x = new LateOrders();
        for (int p = 0; p < 12; p++) {
            Check.due("the first of " + p, x.builds(p), 1);
            x.set(2, p, 98);
            Check.due("the last of " + p, x.builds(p), 99);
            Check.due("one more", x.builds(p), -1);
            Check.due("it stays", x.place(p, 2), 99);
            Check.due("one can be undone", x.look(14), 1);
        }
        int[] none = {-1, 12, MIN, MAX};
        for (int p : none) {
            Check.due("builds(" + p + ")", x.builds(p), -1);
        }
    }

    /** NONE for another what: of place 6, of of 8, of look 15; and below 0. */
    private static void whats() {
        LateOrders x = new LateOrders();
        x.subject(0, 0);
        x.subject(11, 9);
        int[] others = {-1, -2, MIN, MAX};
        for (int what : others) {
            Check.due("place(0, " + what + ")", x.place(0, what), -1);
            Check.due("of(0, " + what + ")", x.of(0, what), -1);
            Check.due("look(" + what + ")", x.look(what), -1);
        }
        Check.due("place(0, 5)", x.place(0, 5), 3);
        Check.due("place(0, 6)", x.place(0, 6), -1);
        Check.due("of(0, 7)", x.of(0, 7), 5);
        Check.due("of(0, 8)", x.of(0, 8), -1);
        Check.due("of(0, 7) of the last", x.of(1, 7), 5);
        Check.due("look(14)", x.look(14), 0);
        Check.due("look(15)", x.look(15), -1);
        Check.due("look(1)", x.look(1), 3);
    }
}
