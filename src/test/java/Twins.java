import java.util.ArrayList;
import java.util.List;

/** Duchies that are told alike each time they are made, and a look at all that one can be asked, to hold two against one another. */
final class Twins {
    /** What is done to one of two that are alike. */
    interface Deed {
        void to(LateOrders x);
    }

    private final LateOrders x;
    private final List<String> answers = new ArrayList<>();

    private Twins(LateOrders x) {
        this.x = x;
    }

    /** Both must answer alike, whatever they are asked, and go on alike. */
    static void alike(String what, LateOrders one, LateOrders other) {
        List<String> a = new Twins(one).askAll();
        List<String> b = new Twins(other).askAll();
        String unlike = a.size() == b.size() ? null : "not as many answers";
        for (int i = 0; i < Math.min(a.size(), b.size()) && unlike == null; i++) {
            if (!a.get(i).equals(b.get(i))) {
                unlike = a.get(i) + ", of the other one " + b.get(i);
            }
        }
        if (unlike != null) {
            System.out.println(what + ": " + unlike);
        }
        Check.due(what + ": all is alike", unlike == null, true);
    }

    private void note(String call, long answer) {
        answers.add(call + " " + answer);
    }

    private void looks() {
        for (int what = 0; what <= 14; what++) {
            note("look " + what, x.look(what));
        }
    }

    private void lines(int first) {
        int count = x.look(8);
        int[] some = {0, 1, 74, count - 2, count - 1, count};
        for (int i = first; i < some.length; i++) {
            int line = some[i];
            for (int what = 0; what < 4; what++) {
                note("book " + line + " " + what, x.book(line, what));
            }
        }
    }

    private List<String> askAll() {
        looks();
        for (int p = 0; p < 12; p++) {
            for (int what = p % 5 == 0 || p == 11 ? 0 : 1; what < (p % 5 == 0 || p == 11 ? 6 : 4); what++) {
                note("place " + p + " " + what, x.place(p, what));
            }
        }
        int[] some = {0, 1, 2, 3, 17};
        for (int who : some) {
            for (int what = 0; what < 8; what++) {
                note("of " + who + " " + what, x.of(who, what));
            }
        }
        lines(0);
        thoughts();
        note("fault 0", x.fault(0));
        note("fault 1", x.fault(1));
        daysGoBy();
        undone();
        theTape();
        note("image", x.image(false) ? 1 : 0);
        looks();
        for (int p = 0; p < 12; p++) {
            note("of the image: place", x.place(p, p % 6));
        }
        return answers;
    }

    private void thoughts() {
        for (int i = -2; i < 8; i++) {
            note("wrong " + i, x.wrong(693, 10, i));
        }
        for (int what = 0; what < 2; what++) {
            note("together " + what, x.together(what));
            note("cross " + what, x.cross(what));
        }
        for (int what = 0; what < 3; what++) {
            note("queue " + what, x.queue(1, what));
            note("queue by two " + what, x.queue(2, what));
        }
        for (int what = 0; what < 4; what++) {
            note("goes " + what, x.goes(4, what));
        }
    }

    private void daysGoBy() {
        note("days", x.days(1));
        for (int what = 2; what <= 9; what++) {
            note("then look " + what, x.look(what));
        }
        note("days", x.days(2));
        for (int what = 2; what <= 9; what++) {
            note("at last look " + what, x.look(what));
        }
        lines(3);
    }

    private void undone() {
        for (int i = 0; i < 7; i++) {
            note("undo", x.undo() ? 1 : 0);
            note("undone: look 5", x.look(5));
            note("undone: look 6", x.look(6));
            note("undone: look 9", x.look(9));
            note("undone: place", x.place(5, 2));
        }
    }

    /** Whether it has 400 bytes, or just 20, and what it tells as THE LAW. */
    private void theTape() {
        boolean whole = x.end(400);
        note("TAPE of 400", whole ? 1 : 0);
        note("TAPE of more than 20", whole || x.end(21) ? 1 : 0);
        note("TAPE of 20", whole || x.end(20) ? 1 : 0);
        note("text", x.text(0));
        note("fault 0", x.fault(0));
        note("fault 1", x.fault(1));
        note("obeys", x.of(0, 6));
    }

    // ---- duchies

    /** Something of all there is, but nothing full; 3 has drowned; 20 bytes are on the TAPE. */
    static LateOrders some() {
        LateOrders x = new LateOrders();
        x.subject(0, 9);
        x.subject(11, 5);
        x.subject(4, 0);
        x.subject(1, 7);
        int[][] set = {{0, 1, 2}, {0, 0, 7}, {1, 4, 20}, {1, 11, 50}, {2, 0, 30}, {2, 9, 99}, {3, 2, 1}, {4, 0, 15}, {5, 0, 3}};
        for (int[] s : set) {
            x.set(s[0], s[1], s[2]);
        }
        Check.tell(x, 0, "obeys 300+70*zeal;grows 2 when fire<50;tires 3+what;");
        Check.tell(x, 1, "on 3 order 1 build daily;on 4 order 0 rest;");
        Check.tell(x, 2, "on 3 fire 9 40;on 4 sea 4;on 5 sea 8;");
        Check.tell(x, 3, "place 0 road 5;place 5 road 11;place 4 road 11;");
        x.state(12345);
        x.prophet(1023);
        x.prophet(85);
        x.spell(12);
        x.spell(231);
        x.comer(3, 9);
        x.comer(1, 7);
        x.letter(1, 9);
        x.letter(2, 5);
        x.order(0, 0, 11, true);
        x.order(2, 1, 0, true);
        x.order(3, 2, 0, false);
        x.image(true);
        x.days(2);
        x.state(777);
        x.builds(5);
        x.order(2, 2, 0, false);
        x.order(5, 1, 0, false);
        Check.tell(x, 0, "obeys 200+70*zeal;grows 4 when fire<50;tires 2+what;tires 1/0;");
        x.feed(0x6f626579, 0x73203537, 0x393b2020, 0x20202020, 0x20202020);
        return x;
    }

    /** As full as can be: SUBJECTS, ORDERS of today and of yesterday, THE BOOK, TEXTS, the TAPE, what is told for thought. */
    static LateOrders full() {
        LateOrders x = new LateOrders();
        for (int who = 0; who < 18; who++) {
            x.subject(who % 12, who % 10);
        }
        Check.tell(x, 0, "obeys 999;" + "grows 1;".repeat(15));
        Check.tell(x, 1, "on 5 order 0 rest;".repeat(15) + "on 10 order 17 stop;");
        Check.tell(x, 2, "on 12 sea 3;".repeat(15) + "on 11 fire 7 9;");
        Check.tell(x, 3, "place 0 road 1;".repeat(15) + "place 1 road 5;");
        for (int i = 0; i < 10; i++) {
            x.prophet(100 * i + 7);
            x.spell(1212 + i);
            x.comer(10 - i, 5 + i);
            x.letter(20 - i, 30 + i);
        }
        for (int who = 0; who < 18; who++) {
            x.order(1 + who % 4, who, 0, true);
        }
        x.days(10);
        for (int i = 0; i < 24; i++) {
            x.order(4, i % 18, 0, false);
        }
        x.set(2, 9, 99);
        x.image(true);
        x.days(1);
        for (int i = 0; i < 24; i++) {
            x.order(2, i % 18, 0, false);
        }
        x.feed(0x6f626579, 0x73203537, 0x393b2020, 0x20202020, 0x20202020);
        for (int i = 1; i < 20; i++) {
            x.feed(0x20202020, 0x20202020, 0x20202020, 0x20202020, 0x20202020);
        }
        return x;
    }
}
