/** Promises 8 to 11: the TAPE, the four TEXTS, their FAULTS, and what THE LAW tells. */
public final class TextTest {
    private TextTest() {
    }

    public static void main(String[] args) {
        tape();
        otherTexts();
        tokens();
        lawFaults();
        conditionFaults();
        ledgerFaults();
        tideFaults();
        roadFaults();
        tooManyLines();
        amounts();
        conditions();
        facts();
        firstLine();
        Check.close("TextTest");
    }

    private static void tape() {
        LateOrders x = new LateOrders();
        for (int i = 1; i <= 20; i++) {
            Check.due("feed " + i, x.feed(0x20202020, 0x0a0a0a0a, 0x20202020, 0x20202020, 0x20202020), 20 * i);
        }
        Check.due("feed too much", x.feed(1, 1, 1, 1, 1), -1);
        Check.due("end(401)", x.end(401), false);
        Check.due("end(-1)", x.end(-1), false);
        Check.due("end(400)", x.end(400), true);
        Check.due("end(381)", x.end(381), true);
        Check.due("feed beyond 400", x.feed(1, 1, 1, 1, 1), -1);
        Check.due("end(382)", x.end(382), false);
        Check.due("end(380)", x.end(380), true);
        Check.due("feed to 400", x.feed(0x20202020, 0x20202020, 0x20202020, 0x20202020, 0x20202020), 400);
        Check.due("blanks", x.text(0), 0);
        Check.due("TAPE empty", x.end(1), false);
        Check.due("end(0)", x.end(0), true);
        // The highest byte first: "obey", "s 12", ";" and an é in the last place.
        Check.due("bytes in order", x.feed(0x6f626579, 0x73203132, 0x3b202020, 0x20202020, 0x202020e9), 20);
        Check.due("é can't stand", x.text(0), -1);
        Check.due("at 19", x.fault(1), 19);
        x.feed(0x6f626579, 0x73203132, 0x3b202020, 0x20202020, 0x202020e9);
        x.end(19);
        Check.due("without it", x.text(0), 1);
        x.subject(0, 0);
        Check.due("read in order", x.of(0, 6), 12);
    }

    private static void otherTexts() {
        LateOrders x = new LateOrders();
        Check.faulty(x, 0, "zeal", 1, 0);
        Check.due("text(4)", Check.tell(x, 4, "obeys 1;"), -1);
        Check.due("fault(0) of none such", x.fault(0), 0);
        Check.due("fault(1) of none such", x.fault(1), -1);
        Check.due("TAPE empty", x.end(1), false);
        Check.due("text(-1)", Check.tell(x, -1, "obeys 1;"), -1);
        Check.due("TAPE empty", x.end(1), false);
        Check.due("fault(2)", x.fault(2), -1);
        Check.due("fault(-1)", x.fault(-1), -1);
        Check.due("no law", x.look(10), 0);
        Check.reads(x, 0, "obeys 1; tires 2;", 2);
        Check.faulty(x, 0, "obeys 1; tires 2; grows", 1, 23);
        Check.due("the law stays", x.look(10), 2);
        x.subject(0, 0);
        Check.due("the law as it was", x.of(0, 6), 1);
        Check.faulty(x, 0, "obeys 7; obeys", 1, 14);
        Check.due("the law as it was still", x.of(0, 6), 1);
        Check.reads(x, 0, "", 0);
        Check.due("no law", x.of(0, 6), 500);
        Check.reads(x, 3, "place 0 road 1;", 1);
        Check.faulty(x, 3, "place 0 road 2; place 0", 1, 23);
        Check.due("roads stay", x.place(0, 4), 2);
    }

    private static void tokens() {
        LateOrders x = new LateOrders();
        x.subject(0, 0);
        Check.reads(x, 0, "\n  obeys\n\n1+ 2 ;tires 1;\n", 2);
        Check.due("blanks between", x.of(0, 6), 3);
        Check.reads(x, 0, "obeys0012;tires1;", 2);
        Check.due("nothing between", x.of(0, 6), 12);
        Check.reads(x, 0, "obeys 100when1=1and not2=1;", 1);
        Check.due("nothing between words and numbers", x.of(0, 6), 100);
        Check.faulty(x, 0, "obeys 00012;", 1, 6);
        Check.faulty(x, 0, "obeys 1 2;", 1, 8);
        Check.faulty(x, 0, "obeys zealtired;", 1, 6);
        Check.faulty(x, 0, "obeys zea;", 1, 6);
        Check.faulty(x, 0, "obeyss 1;", 1, 0);
        Check.faulty(x, 0, "Obeys 1;", 1, 0);
        Check.faulty(x, 0, "obeys ZEAL;", 1, 6);
        Check.faulty(x, 0, "obeys\t1;", 1, 5);
        Check.faulty(x, 0, "obeys\r1;", 1, 5);
        Check.faulty(x, 0, "obeys 1;.", 1, 8);
        Check.faulty(x, 0, "obeys 1; ?", 1, 9);
        Check.faulty(x, 0, "obeys 1 \0;", 1, 8);
        Check.faulty(x, 0, "obeys 1 % 2;", 1, 8);
        Check.faulty(x, 0, "obeys 1 , 2;", 1, 8);
        Check.faulty(x, 0, "obeys 1 : 2;", 1, 8);
        // A keyword of another text can't stand either.
        Check.faulty(x, 0, "obeys place;", 1, 6);
        Check.faulty(x, 1, "on 0 order 0 sea;", 1, 13);
        Check.faulty(x, 2, "on 0 order 0 rest;", 1, 5);
        Check.faulty(x, 3, "on 0 sea 1;", 1, 0);
    }

    private static void lawFaults() {
        LateOrders x = new LateOrders();
        Check.faulty(x, 0, ";", 1, 0);
        Check.faulty(x, 0, "when 1=1;", 1, 0);
        Check.faulty(x, 0, "  7;", 1, 2);
        Check.faulty(x, 0, "obeys", 1, 5);
        Check.faulty(x, 0, "obeys  ", 1, 7);
        Check.faulty(x, 0, "obeys 1", 1, 7);
        Check.faulty(x, 0, "obeys 1 \n ", 1, 10);
        Check.faulty(x, 0, "obeys 1;;", 1, 8);
        Check.faulty(x, 0, "obeys -1;", 1, 6);
        Check.faulty(x, 0, "obeys (1);", 1, 6);
        Check.faulty(x, 0, "obeys 1+;", 1, 8);
        Check.faulty(x, 0, "obeys 1*/2;", 1, 8);
        Check.faulty(x, 0, "obeys 1 zeal;", 1, 8);
        Check.faulty(x, 0, "obeys 1/zeal;", 1, 8);
        Check.faulty(x, 0, "obeys 1/0;", 2, 8);
        Check.faulty(x, 0, "obeys 1/ 0000;", 2, 9);
        Check.faulty(x, 0, "obeys 1/00000;", 1, 8);
        Check.faulty(x, 0, "obeys 4/2/0;", 2, 10);
        Check.faulty(x, 0, "obeys 1/0 when (((((((((1=1;", 2, 8);
        Check.faulty(x, 0, "obeys 1=1;", 1, 7);
        Check.faulty(x, 0, "obeys 1 tires 1;", 1, 8);
        Check.faulty(x, 0, "obeys 1; grows 1/0; obeys", 2, 17);
        Check.reads(x, 0, "obeys 1/9999;", 1);
        Check.reads(x, 0, "obeys 0*0/1;", 1);
    }

    private static void conditionFaults() {
        LateOrders x = new LateOrders();
        Check.faulty(x, 0, "obeys 1 when;", 1, 12);
        Check.faulty(x, 0, "obeys 1 when 1;", 1, 14);
        Check.faulty(x, 0, "obeys 1 when 1<;", 1, 15);
        Check.faulty(x, 0, "obeys 1 when 1<2<3;", 1, 16);
        Check.faulty(x, 0, "obeys 1 when 1<2 and;", 1, 20);
        Check.faulty(x, 0, "obeys 1 when 1<2 or or 1<2;", 1, 20);
        Check.faulty(x, 0, "obeys 1 when 1<2);", 1, 16);
        Check.faulty(x, 0, "obeys 1 when (1<2;", 1, 17);
        Check.faulty(x, 0, "obeys 1 when (1<2", 1, 17);
        Check.faulty(x, 0, "obeys 1 when (1<2));", 1, 18);
        Check.faulty(x, 0, "obeys 1 when (1)<2;", 1, 15);
        Check.faulty(x, 0, "obeys 1 when ();", 1, 14);
        Check.faulty(x, 0, "obeys 1 when not;", 1, 16);
        Check.faulty(x, 0, "obeys 1 when 1<2 not 1<2;", 1, 17);
        Check.faulty(x, 0, "obeys 1 when 1<2 (1<2);", 1, 17);
        Check.faulty(x, 0, "obeys 1 when 1<not 2;", 1, 15);
        Check.faulty(x, 0, "obeys 1 when 1<2 when 1<2;", 1, 17);
        Check.faulty(x, 0, "obeys 1 when 1<2/0;", 2, 17);
        Check.faulty(x, 0, "obeys 1 when (1<2 and not (1<2 or 3/0=1));", 2, 36);
        Check.reads(x, 0, "obeys 1 when ((((((((1=1))))))));", 1);
        Check.faulty(x, 0, "obeys 1 when (((((((((1=1)))))))));", 3, 21);
        Check.reads(x, 0, "obeys 1 when not not not not not not not not 1=1;", 1);
        Check.faulty(x, 0, "obeys 1 when not not not not not not not not not 1=1;", 3, 45);
        Check.faulty(x, 0, "obeys 1 when not not not not not not not not (1=1);", 3, 45);
        Check.reads(x, 0, "obeys 1 when not (not (not (not (1=1))));", 1);
        Check.faulty(x, 0, "obeys 1 when not (not (not (not (not 1=1))));", 3, 33);
        // Those that are not open any more do not count.
        Check.reads(x, 0, "obeys 1 when not 1=1 or not 1=1 or not 1=1 or not 1=1 or not 1=1 or (1=1) or (1=1) or (1=1) or "
            + "(1=1) or not 1=1 or not ((((((not 1=1 and (1=1)))))));", 1);
        Check.faulty(x, 0, "obeys 1 when (1=1) and ((((((((1=1)))))))) and (((((((((", 3, 55);
    }

    private static void ledgerFaults() {
        LateOrders x = new LateOrders();
        Check.faulty(x, 1, "on 0 order 0 rest;", 2, 11);
        x.subject(0, 0);
        x.subject(0, 0);
        Check.reads(x, 1, "on 0 order 0 rest;on 999 order 1 march 11 daily;", 2);
        Check.reads(x, 1, "on 1 order 0 build;on 1 order 0 quench;on 1 order 0 stand;on 1 order 0 stop;", 4);
        Check.reads(x, 1, "on 1 order 0 build daily;on 1 order 0 quench daily;on 1 order 0 stand daily;on 1 order 0 rest daily;", 4);
        Check.faulty(x, 1, "rest", 1, 0);
        Check.faulty(x, 1, "on", 1, 2);
        Check.faulty(x, 1, "on order", 1, 3);
        Check.faulty(x, 1, "on 1000", 2, 3);
        Check.faulty(x, 1, "on 9999", 2, 3);
        Check.faulty(x, 1, "on 12345", 1, 3);
        Check.faulty(x, 1, "on 999 rest", 1, 7);
        Check.faulty(x, 1, "on 999 order", 1, 12);
        Check.faulty(x, 1, "on 999 order rest", 1, 13);
        Check.faulty(x, 1, "on 999 order 2 rest", 2, 13);
        Check.faulty(x, 1, "on 999 order 1 daily", 1, 15);
        Check.faulty(x, 1, "on 999 order 1 march", 1, 20);
        Check.faulty(x, 1, "on 999 order 1 march;", 1, 20);
        Check.faulty(x, 1, "on 999 order 1 march 12", 2, 21);
        Check.faulty(x, 1, "on 999 order 1 march 11", 1, 23);
        Check.faulty(x, 1, "on 999 order 1 rest 11;", 1, 20);
        Check.faulty(x, 1, "on 999 order 1 rest daily daily;", 1, 26);
        Check.faulty(x, 1, "on 999 order 1 stop daily;", 1, 20);
        Check.faulty(x, 1, "on 999 order 1 stop on", 1, 20);
        Check.faulty(x, 1, "on 0 order 0 rest;on 0 order 0 rest", 1, 35);
        Check.due("the ledger stays", x.look(11), 4);
    }

    private static void tideFaults() {
        LateOrders x = new LateOrders();
        Check.reads(x, 2, "on 999 sea 9;on 0 sea 0;on 0 fire 11 99;on 0 fire 0 0;", 4);
        Check.faulty(x, 2, "sea", 1, 0);
        Check.faulty(x, 2, "on sea", 1, 3);
        Check.faulty(x, 2, "on 1000 sea", 2, 3);
        Check.faulty(x, 2, "on 0 wall", 1, 5);
        Check.faulty(x, 2, "on 0 sea", 1, 8);
        Check.faulty(x, 2, "on 0 sea 10", 2, 9);
        Check.faulty(x, 2, "on 0 sea 9", 1, 10);
        Check.faulty(x, 2, "on 0 sea 1 1;", 1, 11);
        Check.faulty(x, 2, "on 0 fire;", 1, 9);
        Check.faulty(x, 2, "on 0 fire 12 0;", 2, 10);
        Check.faulty(x, 2, "on 0 fire 11;", 1, 12);
        Check.faulty(x, 2, "on 0 fire 11 100;", 2, 13);
        Check.faulty(x, 2, "on 0 fire 11 99", 1, 15);
        Check.faulty(x, 2, "on 0 fire 11 99 daily;", 1, 16);
        Check.due("the tide stays", x.look(12), 4);
    }

    private static void roadFaults() {
        LateOrders x = new LateOrders();
        Check.reads(x, 3, "place 0 road 11;place 11 road 0;place 3 road 4;", 3);
        Check.faulty(x, 3, "road", 1, 0);
        Check.faulty(x, 3, "place", 1, 5);
        Check.faulty(x, 3, "place 12", 2, 6);
        Check.faulty(x, 3, "place 11 place", 1, 9);
        Check.faulty(x, 3, "place 11 road", 1, 13);
        Check.faulty(x, 3, "place 11 road 12", 2, 14);
        Check.faulty(x, 3, "place 11 road 11", 2, 14);
        Check.faulty(x, 3, "place 11 road 0011", 2, 14);
        Check.faulty(x, 3, "place 11 road 1", 1, 15);
        Check.faulty(x, 3, "place 11 road 1 2;", 1, 16);
        Check.due("the roads stay", x.look(13), 3);
        Check.due("by a road", x.place(11, 4), 1);
    }

    private static String times(String line, int n) {
        StringBuilder t = new StringBuilder();
        for (int i = 0; i < n; i++) {
            t.append(line);
        }
        return t.toString();
    }

    private static void tooManyLines() {
        LateOrders x = new LateOrders();
        x.subject(0, 0);
        String[] lines = {"grows 1;", "on 0 order 0 rest;", "on 0 sea 1;", "place 0 road 1;"};
        for (int k = 0; k < 4; k++) {
            Check.reads(x, k, times(lines[k], 16), 16);
            Check.due("look", x.look(10 + k), 16);
            int at = 16 * lines[k].length();
            Check.faulty(x, k, times(lines[k], 17), 3, at);
            Check.faulty(x, k, times(lines[k], 16) + " " + lines[k].substring(0, 5), 3, at + 1);
            Check.faulty(x, k, times(lines[k], 16) + " zeal", 1, at + 1);
            Check.faulty(x, k, times(lines[k], 16) + ";", 1, at);
            Check.due("stays", x.look(10 + k), 16);
        }
    }

    private static void amount(LateOrders x, String amount, int due) {
        Check.reads(x, 0, "obeys " + amount + ";", 1);
        Check.due(amount, x.of(0, 6), due);
    }

    private static void amounts() {
        LateOrders x = new LateOrders();
        x.subject(0, 7);
        amount(x, "10-3-2", 5);
        amount(x, "10-3+2", 9);
        amount(x, "2+3*4", 14);
        amount(x, "2*3+4", 10);
        amount(x, "20-2*3*2-1", 7);
        amount(x, "100/7/2", 7);
        amount(x, "100/7*2", 28);
        amount(x, "7*100/3", 233);
        amount(x, "1+100/3-2*5", 24);
        amount(x, "zeal*zeal-zeal", 42);
        amount(x, "0-7+10*1", 3);
        amount(x, "10+zeal-14*1-3+0*5", 0);
        amount(x, "20-43/2+2", 1);
        amount(x, "1000+0-7/2", 997);
        // 4999000050 wraps to 704032754.
        amount(x, "9999*9999*50/9999/100", 704);
    }

    private static void told(LateOrders x, String condition, boolean due) {
        Check.reads(x, 0, "obeys 1 when " + condition + ";obeys 2;", 2);
        Check.due(condition, x.of(0, 6), due ? 1 : 2);
    }

    private static void conditions() {
        LateOrders x = new LateOrders();
        x.subject(0, 7);
        told(x, "1<2", true);
        told(x, "2<2", false);
        told(x, "2=2", true);
        told(x, "1=2", false);
        told(x, "3>2", true);
        told(x, "2>2", false);
        told(x, "1>2", false);
        told(x, "0-1<0", true);
        told(x, "not 1=2", true);
        told(x, "not not 1=2", false);
        told(x, "not 1=2 and 1=2", false);
        told(x, "not 1=1 or 1=1", true);
        told(x, "not (1=2 and 1=2)", true);
        told(x, "not (1=1 or 1=2)", false);
        told(x, "1=1 or 1=1 and 1=2", true);
        told(x, "(1=1 or 1=1) and 1=2", false);
        told(x, "1=2 and 1=1 or 1=1", true);
        told(x, "1=2 and (1=1 or 1=1)", false);
        told(x, "1=2 or 1=2 or 1=1", true);
        told(x, "1=1 and 1=1 and 1=2", false);
        told(x, "1=1 and not 1=2 and not (1=2 or not 1=1)", true);
        told(x, "not (not (1=1 and 1=1) or 1=2)", true);
        told(x, "1=2 or (1=1 and (1=2 or (1=1 and not 1=2)))", true);
        told(x, "1+1*2=3 and zeal-1>5", true);
        told(x, "1<2 and 1=1", true);
        told(x, "2>1 and 1=1", true);
        told(x, "1<2 and 2>1", true);
        told(x, "not (1<2 and 2>1)", false);
        told(x, "not 2>1 or not 1<2", false);
        told(x, "zeal-9=0-2", true);
        // 4199160042 wraps to -95807254, whose part by 9999 is -9581 and some, downwards -9582.
        told(x, "9999*9999*42<0", true);
        told(x, "9999*9999*42/9999=0-9581", true);
    }

    private static void facts() {
        LateOrders x = new LateOrders();
        x.subject(2, 4);
        x.subject(2, 4);
        x.subject(3, 4);
        x.set(4, 0, 11);
        x.set(1, 2, 22);
        x.set(2, 2, 33);
        x.set(0, 2, 8);
        x.set(5, 0, 6);
        x.days(3);
        Check.due("fire by then", x.place(2, 1), 31);
        amount(x, "zeal", 4);
        amount(x, "tired", 11);
        amount(x, "what", 4);
        amount(x, "fire", 31);
        amount(x, "wall", 33);
        amount(x, "high", 8);
        amount(x, "sea", 6);
        amount(x, "crowd", 2);
        amount(x, "done", 0);
        amount(x, "day", 3);
        // 3 lay low: its one drowned.
        Check.due("alive", x.look(1), 3);
        Check.reads(x, 0, "obeys crowd;grows 10+zeal+tired+what+done when crowd=2; grows 20+crowd+day+sea when sea=6;", 3);
        Check.due("grows at 2", x.place(2, 5), 10);
        Check.due("grows at 3", x.place(3, 5), 29);
        Check.due("crowd of those alive", x.of(2, 6), 0);
        Check.reads(x, 0, "obeys 1000; tires done*10+tired;", 2);
        x.order(4, 0, 0, false);
        x.order(4, 0, 0, false);
        x.days(2);
        Check.due("done", x.of(0, 4), 2);
        // 11 and 0 * 10 + 11 more, then 22 and 1 * 10 + 22 more.
        Check.due("tired", x.of(0, 2), 54);
        Check.due("tires", x.of(0, 7), 74);
    }

    private static void firstLine() {
        LateOrders x = new LateOrders();
        x.subject(0, 3);
        Check.reads(x, 0, "tires 9;obeys 1 when zeal=1;obeys 2 when zeal=2;obeys 3 when zeal>1;obeys 4;obeys 5;", 6);
        int[] due = {4, 1, 2, 3};
        for (int zeal = 0; zeal < 4; zeal++) {
            x.set(3, 0, zeal);
            Check.due("first line for zeal " + zeal, x.of(0, 6), due[zeal]);
        }
        Check.due("tires of that law", x.of(0, 7), 9);
        Check.due("grows as usual", x.place(0, 5), 3);
        Check.reads(x, 0, "obeys 1 when zeal=1;tires 1 when zeal=1;grows 1 when sea=1;", 3);
        Check.due("obeys: none is so", x.of(0, 6), 650);
        Check.due("tires: none is so", x.of(0, 7), 5);
        Check.due("grows: none is so", x.place(0, 5), 3);
    }
}
