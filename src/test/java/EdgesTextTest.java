import java.util.Arrays;
import java.util.HashSet;
import java.util.Set;

/** The edges that part 2 of the document names, and those of promises 8 to 11. */
public final class EdgesTextTest {
    private static final String[] KEYWORDS = {"obeys", "tires", "grows", "zeal", "tired", "what", "fire", "wall", "high", "sea",
        "crowd", "done", "day", "when", "or", "and", "not", "on", "order", "march", "rest", "build", "quench", "stand", "stop",
        "daily", "place", "road"};
    private static final String[] SIGNS = {";", "+", "-", "*", "/", "(", ")", "<", "=", ">"};
    private static final String[] NONE = {".", "?", "!", ",", ":", "[", "@", "#", "'", "\"", "_", "%", "^", "{", "}", "\\", "|", "&", "~",
        "\0", "\t", "\r", "\u000b", "\u000c", "\u001f", "\u007f", "\u0080", "\u00a0", "\u00e9", "\u00ff",
        "12345", "00001", "00000", "X", "Sea", "SEA", "seas", "se", "a", "z", "obey", "whens", "roads", "places", "stops"};
    private static final String UNIT = "N zeal tired what fire wall high sea crowd done day";
    private static final String OPENS = UNIT + " not (";
    private static final String GOES_ON = "+ - * /";

    private LateOrders asked;
    private int calls;

    private EdgesTextTest() {
    }

    public static void main(String[] args) {
        EdgesTextTest test = new EdgesTextTest();
        test.law();
        test.conditions();
        test.ledger();
        test.tideAndRoads();
        tapeIsFull();
        tapeEnds();
        tapeIsEmptyThen();
        bytesAreHighestFirst();
        noSuchText();
        faultOfTheLatest();
        emptyTexts();
        aWholeTape();
        numbersOfFourDigits();
        tokensWithoutBlanks();
        firstByItsPlace();
        leastAtOnePlace();
        seventeenthLine();
        ninthOpen();
        openNoMore();
        partsByNought();
        bounds();
        subjectsThereAre();
        samePlaceAgain();
        wraps();
        towardsNought();
        heldTo();
        growsKnowsNobody();
        firstLineThatIsSo();
        compared();
        Check.close("EdgesTextTest");
    }

    // ---- FAULT 1: what can't stand there, for each place of each TEXT and each token that there is

    private LateOrders fresh() {
        if (asked == null || calls > 480) {
            asked = new LateOrders();
            // So that there is the SUBJECT 7.
            for (int i = 0; i < 8; i++) {
                asked.subject(0, 0);
            }
            calls = 8;
        }
        return asked;
    }

    private void stands(int k, String ahead, String allowed) {
        Set<String> can = new HashSet<>(Arrays.asList(allowed.split(" ")));
        int at = ahead.isEmpty() ? 0 : ahead.length() + 1;
        String start = ahead.isEmpty() ? "" : ahead + " ";
        for (String[] tokens : new String[][] {KEYWORDS, SIGNS, NONE, {"N"}}) {
            for (String token : tokens) {
                String text = start + (token.equals("N") ? "7" : token);
                if (can.contains(token)) {
                    standsThere(k, text, text.length());
                } else {
                    cant(k, text + " ;", at);
                    cant(k, text, at);
                }
            }
        }
        if (!can.contains("END")) {
            cant(k, ahead, ahead.length());
            cant(k, ahead + "\n ", ahead.length() + 2);
        } else {
            told(k, ahead, -1);
            told(k, ahead + "\n ", -1);
        }
    }

    private void told(int k, String text, int at) {
        LateOrders x = fresh();
        int answer = Check.tell(x, k, text);
        Check.due("is there a FAULT in " + text, answer == -1 ? 1 : 0, at < 0 ? 0 : 1);
        Check.due("FAULT in " + text, x.fault(0), at < 0 ? 0 : 1);
        Check.due("place of the FAULT in " + text, x.fault(1), at);
        calls += 4 + (text.length() + 19) / 20;
    }

    private void cant(int k, String text, int at) {
        told(k, text, at);
    }

    /** Whatever is said of what follows, it is not said of what stands. */
    private void standsThere(int k, String text, int to) {
        LateOrders x = fresh();
        int answer = Check.tell(x, k, text);
        Check.due("it stands: " + text, answer != -1 || x.fault(1) >= to, true);
        calls += 4 + (text.length() + 19) / 20;
    }

    private void law() {
        stands(0, "", "obeys tires grows END");
        stands(0, "obeys 1 ;", "obeys tires grows END");
        stands(0, "obeys 1 when 1 < 2 ;", "obeys tires grows END");
        for (String word : new String[] {"obeys", "tires", "grows"}) {
            stands(0, word, UNIT);
        }
        stands(0, "obeys 1", GOES_ON + " when ;");
        for (String unit : UNIT.substring(2).split(" ")) {
            stands(0, "tires " + unit, GOES_ON + " when ;");
        }
        for (String sign : new String[] {"+", "-", "*"}) {
            stands(0, "grows 1 " + sign, UNIT);
            stands(0, "grows 1 " + sign + " day", GOES_ON + " when ;");
        }
        stands(0, "obeys 1 /", "N");
        stands(0, "obeys 1 / 2", GOES_ON + " when ;");
        stands(0, "obeys zeal / 2 /", "N");
        stands(0, "obeys zeal * 2 /", "N");
    }

    private void conditions() {
        String line = "obeys 1 when";
        stands(0, line, OPENS);
        stands(0, line + " 1", GOES_ON + " < = >");
        for (String sign : new String[] {"<", "=", ">"}) {
            stands(0, line + " 1 " + sign, UNIT);
            stands(0, line + " 1 " + sign + " day", GOES_ON + " and or ;");
        }
        stands(0, line + " 1 < 2 +", UNIT);
        stands(0, line + " 1 < 2 /", "N");
        stands(0, line + " 1 /", "N");
        stands(0, line + " 1 < 2 and", OPENS);
        stands(0, line + " 1 < 2 or", OPENS);
        stands(0, line + " not", OPENS);
        stands(0, line + " (", OPENS);
        stands(0, line + " not 1", GOES_ON + " < = >");
        stands(0, line + " not 1 < 2", GOES_ON + " and or ;");
        stands(0, line + " ( 1", GOES_ON + " < = >");
        stands(0, line + " ( 1 < 2", GOES_ON + " and or )");
        stands(0, line + " ( not 1 < 2", GOES_ON + " and or )");
        stands(0, line + " ( 1 < 2 and", OPENS);
        stands(0, line + " ( 1 < 2 or 3 < 4", GOES_ON + " and or )");
        stands(0, line + " ( 1 < 2 )", "and or ;");
        stands(0, line + " not ( 1 < 2 )", "and or ;");
        stands(0, line + " ( ( 1 < 2 )", "and or )");
        stands(0, line + " ( ( 1 < 2 ) )", "and or ;");
        stands(0, line + " ( 1 < 2 ) and ( 1 = 2", GOES_ON + " and or )");
    }

    private void ledger() {
        stands(1, "", "on END");
        stands(1, "on", "N");
        stands(1, "on 7", "order");
        stands(1, "on 7 order", "N");
        stands(1, "on 7 order 0", "march rest build quench stand stop");
        stands(1, "on 7 order 0 march", "N");
        stands(1, "on 7 order 0 march 1", "daily ;");
        for (String what : new String[] {"rest", "build", "quench", "stand"}) {
            stands(1, "on 7 order 0 " + what, "daily ;");
        }
        stands(1, "on 7 order 0 stop", ";");
        stands(1, "on 7 order 0 rest daily", ";");
        stands(1, "on 7 order 0 march 1 daily", ";");
        stands(1, "on 7 order 0 rest ;", "on END");
        stands(1, "on 7 order 0 stand daily ;", "on END");
    }

    private void tideAndRoads() {
        stands(2, "", "on END");
        stands(2, "on", "N");
        stands(2, "on 7", "sea fire");
        stands(2, "on 7 sea", "N");
        stands(2, "on 7 sea 1", ";");
        stands(2, "on 7 fire", "N");
        stands(2, "on 7 fire 1", "N");
        stands(2, "on 7 fire 1 99", ";");
        stands(2, "on 7 sea 1 ;", "on END");
        stands(2, "on 7 fire 1 1 ;", "on END");
        stands(3, "", "place END");
        stands(3, "place", "N");
        stands(3, "place 1", "road");
        stands(3, "place 1 road", "N");
        stands(3, "place 1 road 2", ";");
        stands(3, "place 1 road 2 ;", "place END");
    }

    // ---- the TAPE

    private static int blanks(LateOrders x) {
        return x.feed(0x20202020, 0x20202020, 0x20202020, 0x20202020, 0x20202020);
    }

    /** NONE, and nothing comes, if there would be more than 400. */
    private static void tapeIsFull() {
        LateOrders x = new LateOrders();
        for (int i = 20; i <= 400; i += 20) {
            Check.due("feed", blanks(x), i);
        }
        // Were one of these bytes to come, the text would have a FAULT.
        Check.due("a 401st", x.feed(-1, -1, -1, -1, -1), -1);
        Check.due("end(401)", x.end(401), false);
        Check.due("all blanks", x.text(0), 0);
        for (int i = 20; i <= 400; i += 20) {
            blanks(x);
        }
        int[] tooMany = {399, 390, 382, 381};
        for (int n : tooMany) {
            Check.due("end(" + n + ")", x.end(n), true);
            Check.due("feed behind " + n, x.feed(-1, -1, -1, -1, -1), -1);
            Check.due("none came", x.end(n + 1), false);
        }
        Check.due("end(380)", x.end(380), true);
        Check.due("feed behind 380", blanks(x), 400);
        Check.due("end(400)", x.end(400), true);
        Check.due("end(379)", x.end(379), true);
        Check.due("feed behind 379", blanks(x), 399);
        Check.due("all blanks still", x.text(0), 0);
    }

    /** false, changing nothing, if it has not so many, or n is below 0. */
    private static void tapeEnds() {
        LateOrders x = new LateOrders();
        int[] none = {1, 2, 20, 400, 401, -1, Integer.MIN_VALUE, Integer.MAX_VALUE};
        for (int n : none) {
            Check.due("empty: end(" + n + ")", x.end(n), false);
        }
        Check.due("empty: end(0)", x.end(0), true);
        Check.lay(x, "obeys 12;");
        int[] cant = {10, 20, 400, -1, Integer.MIN_VALUE, Integer.MAX_VALUE};
        for (int n : cant) {
            Check.due("nine: end(" + n + ")", x.end(n), false);
        }
        Check.due("nine: end(9)", x.end(9), true);
        Check.due("nothing has changed", x.text(0), 1);
        x.subject(0, 0);
        Check.due("12", x.of(0, 6), 12);
        // What was cut off is gone, and what comes is laid behind what is left.
        Check.lay(x, "obeys 34;");
        Check.due("end(7)", x.end(7), true);
        Check.due("end(8)", x.end(8), false);
        Check.due("feed", x.feed(0x353b2020, 0x20202020, 0x20202020, 0x20202020, 0x20202020), 27);
        Check.due("35", x.text(0), 1);
        Check.due("obeys", x.of(0, 6), 35);
        Check.lay(x, "obeys 34;");
        Check.due("end(0)", x.end(0), true);
        Check.due("nothing is left", x.text(0), 0);
    }

    /** The TAPE is empty in each case. */
    private static void tapeIsEmptyThen() {
        String[] texts = {"obeys 1;", "obeys 1", "", "on 0 sea 1;"};
        for (int k = -1; k <= 4; k++) {
            for (String text : texts) {
                LateOrders x = new LateOrders();
                Check.lay(x, text);
                x.text(k);
                Check.due("empty behind text(" + k + "): end(1)", x.end(1), false);
                Check.due("empty behind text(" + k + "): end(0)", x.end(0), true);
                Check.due("empty behind text(" + k + "): feed", blanks(x), 20);
            }
        }
    }

    /** Of each number the highest byte first; bytes are without sign. */
    private static void bytesAreHighestFirst() {
        String text = "obeys zeal+done*day;";
        for (int at = 0; at < 20; at++) {
            LateOrders x = new LateOrders();
            int[] v = new int[5];
            for (int i = 0; i < 5; i++) {
                v[i] = Check.four(text, 4 * i);
            }
            v[at / 4] |= 0x80 << 8 * (3 - at % 4);
            Check.due("feed", x.feed(v[0], v[1], v[2], v[3], v[4]), 20);
            Check.due("a byte above 127 at " + at, x.text(0), -1);
            Check.due("it can't stand at " + at, x.fault(0), 1);
            // A word is one token, up to the byte that is no letter.
            int[] due = {0, 0, 0, 0, 0, 5, 6, 6, 6, 6, 10, 11, 11, 11, 11, 15, 16, 16, 16, 19};
            Check.due("its token at " + at, x.fault(1), due[at]);
        }
        LateOrders x = new LateOrders();
        Check.due("feed", x.feed(Check.four(text, 0), Check.four(text, 4), Check.four(text, 8), Check.four(text, 12),
            Check.four(text, 16)), 20);
        Check.due("as it is", x.text(0), 1);
    }

    /** NONE: no such one (fault() tells 0). */
    private static void noSuchText() {
        int[] none = {-1, 4, 5, Integer.MIN_VALUE, Integer.MAX_VALUE};
        for (int k : none) {
            LateOrders x = new LateOrders();
            Check.faulty(x, 0, "obeys", 1, 5);
            Check.lay(x, "obeys");
            Check.due("text(" + k + ")", x.text(k), -1);
            Check.due("fault(0)", x.fault(0), 0);
            Check.due("fault(1)", x.fault(1), -1);
            Check.due("the TAPE is empty", x.end(1), false);
            for (int what = 10; what < 14; what++) {
                Check.due("no TEXT", x.look(what), 0);
            }
        }
    }

    /** Of the latest text(): 0 without one; NONE for another what. */
    private static void faultOfTheLatest() {
        LateOrders x = new LateOrders();
        int[] others = {-1, 2, 3, Integer.MIN_VALUE, Integer.MAX_VALUE};
        Check.faulty(x, 3, "place 1 road 1;", 2, 13);
        for (int what : others) {
            Check.due("fault(" + what + ")", x.fault(what), -1);
        }
        x.feed(1, 1, 1, 1, 1);
        x.end(0);
        Check.due("feed and end leave it", x.fault(0), 2);
        Check.reads(x, 3, "place 1 road 2;", 1);
        for (int what : others) {
            Check.due("fault(" + what + ")", x.fault(what), -1);
        }
        Check.faulty(x, 0, "grows 1/0;", 2, 8);
        Check.faulty(x, 0, "grows 1/", 1, 8);
        Check.reads(x, 1, "", 0);
    }

    /** A TEXT without a line is one: none is then. */
    private static void emptyTexts() {
        String[] some = {"obeys 7;", "on 0 order 0 build;", "on 0 fire 3 9;", "place 0 road 1;"};
        String[] none = {"", " ", "\n", "  \n \n"};
        for (int k = 0; k < 4; k++) {
            for (String text : none) {
                LateOrders x = new LateOrders();
                x.subject(0, 0);
                Check.reads(x, k, some[k], 1);
                Check.reads(x, k, text, 0);
                Check.due("lines", x.look(10 + k), 0);
                x.days(1);
                Check.due("obeys", x.of(0, 6), 500);
                Check.due("orders", x.look(7), 0);
                Check.due("fire", x.place(3, 1), 0);
                Check.due("roads", x.place(0, 4), 0);
            }
        }
    }

    /** A TEXT of 400 bytes, each a token or nearly each; one that only ends beyond them. */
    private static void aWholeTape() {
        LateOrders x = new LateOrders();
        x.subject(0, 0);
        StringBuilder sum = new StringBuilder("obeys 1");
        while (sum.length() < 399) {
            sum.append("+1");
        }
        Check.due("400 bytes", sum.length(), 399);
        Check.reads(x, 0, sum + ";", 1);
        Check.due("197 ones", x.of(0, 6), 197);
        Check.faulty(x, 0, sum + "+", 1, 400);
        Check.faulty(x, 0, sum.substring(0, 398) + "11", 1, 400);
        StringBuilder blank = new StringBuilder();
        while (blank.length() < 392) {
            blank.append(' ');
        }
        Check.reads(x, 0, blank + "grows 1;", 1);
        Check.faulty(x, 0, blank + "  grows1", 1, 400);
        Check.faulty(x, 0, blank + "grows 10", 1, 400);
        Check.faulty(x, 0, blank + " grows;1", 1, 398);
        Check.faulty(x, 0, blank + "       ?", 1, 399);
        StringBuilder signs = new StringBuilder();
        while (signs.length() < 400) {
            signs.append(';');
        }
        Check.faulty(x, 0, signs.toString(), 1, 0);
    }

    // ---- tokens

    /** NUMBERS of 1 to 4 digits, or none. */
    private static void numbersOfFourDigits() {
        LateOrders x = new LateOrders();
        x.subject(0, 0);
        Check.reads(x, 0, "obeys 9999-9998;", 1);
        Check.due("four digits", x.of(0, 6), 1);
        Check.reads(x, 0, "obeys 0009;", 1);
        Check.due("noughts ahead", x.of(0, 6), 9);
        Check.reads(x, 0, "obeys 9;", 1);
        Check.due("one digit", x.of(0, 6), 9);
        Check.faulty(x, 0, "obeys 10000;", 1, 6);
        Check.faulty(x, 0, "obeys 00009;", 1, 6);
        Check.faulty(x, 0, "obeys 12345678901234567890;", 1, 6);
        Check.faulty(x, 0, "obeys 1/00002;", 1, 8);
        Check.faulty(x, 1, "on 00000 order 0 rest;", 1, 3);
        Check.faulty(x, 1, "on 0 order 00000 rest;", 1, 11);
        Check.faulty(x, 1, "on 0 order 0 march 00001;", 1, 19);
        Check.faulty(x, 2, "on 00000 sea 1;", 1, 3);
        Check.faulty(x, 2, "on 0 sea 00001;", 1, 9);
        Check.faulty(x, 2, "on 0 fire 00001 1;", 1, 10);
        Check.faulty(x, 2, "on 0 fire 1 00001;", 1, 12);
        Check.faulty(x, 3, "place 00001 road 2;", 1, 6);
        Check.faulty(x, 3, "place 1 road 00002;", 1, 13);
        Check.reads(x, 1, "on 0000 order 0000 march 0011;", 1);
        Check.reads(x, 2, "on 0999 sea 0009;on 0000 fire 0011 0099;", 2);
        Check.reads(x, 3, "place 0000 road 0011;", 1);
    }

    /** Blanks (32, 10) between: none is needed where letters and digits part; two words need one. */
    private static void tokensWithoutBlanks() {
        LateOrders x = new LateOrders();
        x.subject(0, 0);
        Check.reads(x, 0, "obeys1when(1=1)and not(1=2)or 2>1;tires1;", 2);
        Check.reads(x, 1, "on0order0march1daily;on0order0stop;", 2);
        Check.reads(x, 2, "on0sea1;on0fire1 1;", 2);
        Check.reads(x, 3, "place0road1;", 1);
        Check.reads(x, 0, "\n\n obeys \n 1 \n ; \n", 1);
        Check.faulty(x, 0, "obeyszeal;", 1, 0);
        Check.faulty(x, 0, "obeys zealwhen 1=1;", 1, 6);
        Check.faulty(x, 0, "obeys 1 when not1=1 andnot 1=1;", 1, 20);
        Check.faulty(x, 0, "obe ys 1;", 1, 0);
        Check.faulty(x, 0, "obeys 1 2;", 1, 8);
        Check.faulty(x, 0, "obeys 1\t;", 1, 7);
        Check.faulty(x, 0, "obeys 1\r\n;", 1, 7);
        Check.faulty(x, 0, "obeys 1;\0", 1, 8);
        Check.faulty(x, 0, "obeys 1;\u00a0", 1, 8);
        // Letters as many as stand together, of either size.
        Check.faulty(x, 0, "obeysX 1;", 1, 0);
        Check.faulty(x, 0, "obeysA 1;", 1, 0);
        Check.faulty(x, 0, "obeysZ 1;", 1, 0);
        Check.faulty(x, 0, "obeys zealA;", 1, 6);
        Check.faulty(x, 0, "obeys zealZ;", 1, 6);
        Check.faulty(x, 0, "obeys zeala;", 1, 6);
        Check.faulty(x, 0, "obeys zealz;", 1, 6);
        // What is beside letters in their row is none.
        Check.faulty(x, 0, "obeys zeal@;", 1, 10);
        Check.faulty(x, 0, "obeys zeal[;", 1, 10);
        Check.faulty(x, 0, "obeys zeal`;", 1, 10);
        Check.faulty(x, 0, "obeys zeal{;", 1, 10);
        Check.faulty(x, 0, "obeys 1:;", 1, 7);
        Check.faulty(x, 0, "obeys 1,;", 1, 7);
        Check.faulty(x, 0, "obeys 1.;", 1, 7);
        Check.faulty(x, 0, "obeys 1';", 1, 7);
        Check.faulty(x, 0, "obeys 1?;", 1, 7);
    }

    // ---- FAULTS

    private static void firstByItsPlace() {
        LateOrders x = new LateOrders();
        x.subject(0, 0);
        Check.faulty(x, 0, "obeys 1/0 1/0 zeal zeal;", 2, 8);
        Check.faulty(x, 0, "obeys ) 1/0;", 1, 6);
        Check.faulty(x, 0, "obeys 1/0;obeys", 2, 8);
        Check.faulty(x, 0, "obeys 1;obeys;tires 1/0;", 1, 13);
        Check.faulty(x, 0, "obeys 1 when 1/0=1 and (((((((((1=1;", 2, 15);
        Check.faulty(x, 0, "obeys 1 when (((((((((1/0=1;", 3, 21);
        Check.faulty(x, 1, "on 1000 order 1 march 12;", 2, 3);
        Check.faulty(x, 1, "on 999 order 1 march 12;", 2, 13);
        Check.faulty(x, 1, "on 999 order 0 march 12;", 2, 21);
        Check.faulty(x, 1, "on 999 order 0 march 11 stop", 1, 24);
        Check.faulty(x, 2, "on 1000 fire 12 100;", 2, 3);
        Check.faulty(x, 2, "on 999 fire 12 100;", 2, 12);
        Check.faulty(x, 2, "on 999 fire 11 100", 2, 15);
        Check.faulty(x, 3, "place 12 road 12;", 2, 6);
        Check.faulty(x, 3, "place 11 road 12", 2, 14);
        Check.faulty(x, 3, "place 11 place 12", 1, 9);
    }

    /** At one place the least: 1 where what is more than can be can't stand either; 2 where 3 might be. */
    private static void leastAtOnePlace() {
        LateOrders x = new LateOrders();
        x.subject(0, 0);
        String[] lines = {"grows 1;", "on 0 order 0 rest;", "on 0 sea 1;", "place 0 road 1;"};
        String[] others = {"place", "obeys", "obeys", "on"};
        for (int k = 0; k < 4; k++) {
            int at = 16 * lines[k].length();
            Check.faulty(x, k, lines[k].repeat(16) + others[k], 1, at);
            Check.faulty(x, k, lines[k].repeat(16) + "1", 1, at);
            Check.faulty(x, k, lines[k].repeat(16) + ";", 1, at);
            Check.faulty(x, k, lines[k].repeat(16) + "?", 1, at);
        }
        // The ninth ( or not stands where none can.
        String eight = "obeys 1 when ((((((((";
        Check.faulty(x, 0, eight + "1(", 1, 22);
        Check.faulty(x, 0, eight + "1<(", 1, 23);
        Check.faulty(x, 0, eight + "1<2(", 1, 24);
        Check.faulty(x, 0, eight + "1<2 not", 1, 25);
        Check.faulty(x, 0, eight + "1<2)(", 1, 25);
        Check.faulty(x, 0, eight + "1<2 and (", 3, 29);
    }

    /** 16 lines of each at most; 3 at the KEYWORD of the 17th. */
    private static void seventeenthLine() {
        LateOrders x = new LateOrders();
        x.subject(0, 0);
        x.subject(0, 0);
        String[] lines = {"obeys 1;", "on 0 order 1 rest;", "on 0 sea 1;", "place 0 road 1;"};
        String[] words = {"obeys", "on", "on", "place"};
        for (int k = 0; k < 4; k++) {
            Check.reads(x, k, lines[k].repeat(15), 15);
            Check.due("fifteen", x.look(10 + k), 15);
            Check.reads(x, k, lines[k].repeat(16), 16);
            Check.due("sixteen", x.look(10 + k), 16);
            int at = 16 * lines[k].length();
            Check.faulty(x, k, lines[k].repeat(17), 3, at);
            Check.faulty(x, k, lines[k].repeat(16) + words[k], 3, at);
            Check.faulty(x, k, lines[k].repeat(16) + "  \n " + words[k] + " ?", 3, at + 4);
            Check.faulty(x, k, lines[k].repeat(15) + words[k], 1, at - lines[k].length() + words[k].length());
            Check.due("sixteen still", x.look(10 + k), 16);
        }
        // 16 lines in all, of whatever words; and the sixteenth is of use.
        Check.faulty(x, 0, "obeys 1;tires 1;grows 1;".repeat(5) + "tires 2;grows 2;", 3, 128);
        Check.reads(x, 0, "obeys 1;".repeat(15) + "tires 77;", 16);
        Check.due("the sixteenth of THE LAW", x.of(0, 7), 77);
        Check.reads(x, 1, "on 5 order 0 rest;".repeat(15) + "on 0 order 0 rest;", 16);
        Check.reads(x, 2, "on 5 sea 1;".repeat(15) + "on 0 sea 3;", 16);
        Check.reads(x, 3, "place 0 road 1;".repeat(15) + "place 3 road 4;", 16);
        Check.due("the sixteenth of ROADS", x.place(4, 4), 1 << 3);
        x.days(1);
        Check.due("the sixteenth of LEDGER", x.look(7), 1);
        Check.due("the sixteenth of TIDE", x.look(2), 3);
        // A new text has its own sixteen.
        Check.reads(x, 3, "place 0 road 1;".repeat(16), 16);
        Check.due("those before are gone", x.place(4, 4), 0);
    }

    /** 3 (at it): the 9th ( or not that is open. */
    private static void ninthOpen() {
        LateOrders x = new LateOrders();
        x.subject(0, 0);
        // In each row of nine, of ( and not in whatever order, eight are taken and the ninth is not.
        for (int set = 0; set < 512; set += 7) {
            StringBuilder text = new StringBuilder("obeys 1 when ");
            StringBuilder closes = new StringBuilder();
            int at = 0;
            for (int i = 0; i < 9; i++) {
                if (i == 8) {
                    Check.reads(x, 0, text + "1=1" + closes + ";", 1);
                }
                at = text.length();
                boolean not = (set >> i & 1) == 1;
                text.append(not ? "not " : "(");
                closes.append(not ? "" : ")");
            }
            Check.faulty(x, 0, text + "1=1" + closes + ";", 3, at);
            x = new LateOrders();
            x.subject(0, 0);
        }
        Check.faulty(x, 0, "obeys 1 when ((((((((1=1 and 1=1 or (1=1))))))));", 3, 36);
        Check.faulty(x, 0, "obeys 1 when ((((((((1=1 and not 1=1))))))));", 3, 29);
        Check.faulty(x, 0, "obeys 1 when 1=1 or 1=1 and (((((((((", 3, 36);
        // Each line and each line's B begins with none open.
        Check.reads(x, 0, "obeys 1 when ((((((((1=1))))))));tires 1 when ((((((((1=1))))))));"
            + "grows 1 when not not not not not not not not 1=1;grows 2 when ((((((((1=1))))))));", 4);
    }

    /** What is closed is not open any more: a ( by its ), a not behind its C. */
    private static void openNoMore() {
        LateOrders x = new LateOrders();
        x.subject(0, 0);
        Check.reads(x, 0, "obeys 1 when ((((((((1=1)and(1=1))and(1=1))and(1=1))and(1=1))and(1=1))and(1=1))and(1=1))and(1=1);", 1);
        Check.reads(x, 0, "obeys 1 when (((((((not 1=1 and not 1=1 or not 1=1)))))))and((((((((1=1))))))));", 1);
        Check.reads(x, 0, "obeys 1 when not not not not((((1=1))))and((((((((1=1))))))));", 1);
        Check.reads(x, 0, "obeys 1 when not(not(not(not(1=1))and not(not(1=1))));", 1);
        Check.reads(x, 0, "obeys 1 when not(1=1)and((((((((1=1))))))));", 1);
        Check.reads(x, 0, "obeys 1 when (not 1=1)and((((((((1=1))))))));", 1);
        Check.faulty(x, 0, "obeys 1 when (not 1=1 and((((((((1=1))))))));", 3, 32);
        Check.faulty(x, 0, "obeys 1 when not(1=1 and((((((((1=1)))))))));", 3, 30);
        Check.faulty(x, 0, "obeys 1 when ((1=1)and((((((((1=1))))))))));", 3, 29);
        // The deepest of all, told in full: eight open, an and and an or waiting in each.
        String deep = "0=1 or 1=1 and (".repeat(8) + "0=1 or 1=1 and 2=2" + ")".repeat(8);
        Check.reads(x, 0, "obeys 1 when " + deep + ";obeys 2;", 2);
        Check.due("so", x.of(0, 6), 1);
        Check.reads(x, 0, "obeys 1 when " + deep.replace("2=2", "2=3") + ";obeys 2;", 2);
        Check.due("not so", x.of(0, 6), 2);
        for (int nots = 1; nots <= 4; nots++) {
            String row = "0=1 or 1=1 and not (".repeat(nots) + "2=2" + ")".repeat(nots);
            Check.reads(x, 0, "obeys 1 when " + row + ";obeys 2;", 2);
            Check.due(row, x.of(0, 6), nots % 2 == 0 ? 1 : 2);
        }
    }

    /** 2 (at the NUMBER): a part by 0. */
    private static void partsByNought() {
        LateOrders x = new LateOrders();
        x.subject(0, 0);
        Check.faulty(x, 0, "obeys 1/0;", 2, 8);
        Check.faulty(x, 0, "obeys 1/00;", 2, 8);
        Check.faulty(x, 0, "obeys 1/  000;", 2, 10);
        Check.faulty(x, 0, "obeys 1/\n0000;", 2, 9);
        Check.faulty(x, 0, "obeys 0/0;", 2, 8);
        Check.faulty(x, 0, "obeys 1 when zeal/0=1;", 2, 18);
        Check.faulty(x, 0, "obeys 1 when 1=zeal*2/0;", 2, 22);
        Check.faulty(x, 0, "obeys 6/1/0;", 2, 10);
        Check.reads(x, 0, "obeys 6/1;", 1);
        Check.due("by 1", x.of(0, 6), 6);
        Check.reads(x, 0, "obeys 0/9999;", 1);
        Check.due("by 9999", x.of(0, 6), 0);
        Check.reads(x, 0, "obeys 9999/9999+0*0;", 1);
        Check.due("0 may be a factor", x.of(0, 6), 1);
    }

    /** 2 (at the NUMBER): one beyond its bounds. DAY 0 .. 999, PLACE 0 .. 11, sea 0 .. 9, fire 0 .. 99. */
    private static void bounds() {
        int[] beyond = {0, 1, 9, 10, 11, 12, 98, 99, 100, 998, 999, 1000, 9999};
        LateOrders x = null;
        for (int v : beyond) {
            x = new LateOrders();
            x.subject(0, 0);
            bound(x, 1, "on ", v, " order 0 rest;", 999);
            bound(x, 1, "on 0 order 0 march ", v, ";", 11);
            bound(x, 1, "on 0 order 0 march ", v, " daily;", 11);
            bound(x, 2, "on ", v, " sea 0;", 999);
            bound(x, 2, "on ", v, " fire 0 0;", 999);
            bound(x, 2, "on 0 sea ", v, ";", 9);
            bound(x, 2, "on 0 fire ", v, " 0;", 11);
            bound(x, 2, "on 0 fire 0 ", v, ";", 99);
            if (v != 3) {
                bound(x, 3, "place ", v, " road 3;", 11);
                bound(x, 3, "place 3 road ", v, ";", 11);
            }
        }
    }

    private static void bound(LateOrders x, int k, String ahead, int v, String behind, int most) {
        if (v > most) {
            Check.faulty(x, k, ahead + v + behind, 2, ahead.length());
        } else {
            Check.reads(x, k, ahead + v + behind, 1);
        }
    }

    /** 2 (at the NUMBER): a SUBJECT that there is not; one who is not ALIVE is there. */
    private static void subjectsThereAre() {
        LateOrders x = new LateOrders();
        for (int count = 0; count <= 18; count++) {
            for (int who = Math.max(0, count - 1); who <= count; who++) {
                String text = "on 0 order " + who + " stop;";
                if (who < count) {
                    Check.reads(x, 1, text, 1);
                } else {
                    Check.faulty(x, 1, text, 2, 11);
                }
            }
            x.subject(0, 0);
        }
        Check.faulty(x, 1, "on 0 order 18 stop;", 2, 11);
        Check.faulty(x, 1, "on 0 order 9999 stop;", 2, 11);
        Check.due("the latest that was told", x.look(11), 1);
        x.set(5, 0, 6);
        x.days(1);
        Check.due("all drowned", x.look(1), 0);
        Check.reads(x, 1, "on 0 order 17 stop;on 0 order 0 rest;", 2);
    }

    /** 2 (at the NUMBER): the same PLACE again (of ROADS). */
    private static void samePlaceAgain() {
        LateOrders x = new LateOrders();
        for (int p = 0; p < 12; p++) {
            String ahead = "place " + p + " road ";
            Check.faulty(x, 3, ahead + p + ";", 2, ahead.length());
            Check.faulty(x, 3, ahead + "00" + p + ";", 2, ahead.length());
            Check.reads(x, 3, ahead + (p + 1) % 12 + ";", 1);
            Check.due("either way", x.place((p + 1) % 12, 4), 1 << p);
        }
        // A road told twice, or either way, is taken: two lines, one road.
        Check.reads(x, 3, "place 0 road 11;place 0 road 11;place 11 road 0;", 3);
        Check.due("from 0", x.place(0, 4), 1 << 11);
        Check.due("from 11", x.place(11, 4), 1);
    }

    // ---- what THE LAW tells

    private static void so(LateOrders x, String condition) {
        Check.reads(x, 0, "obeys 1 when " + condition + ";obeys 2;", 2);
        Check.due(condition, x.of(0, 6), 1);
    }

    /** < = > of what is one less, alike, one more; of what is below 0, and of the ends of ints, too. */
    private static void compared() {
        LateOrders x = new LateOrders();
        x.subject(0, 0);
        String least = "0-9999*9999*21-9999*4790-7999-417-1";
        String most = "9999*9999*21+9999*4790+7999+417";
        String[] amounts = {least, "0-2", "0-1", "0", "1", "2", "9999", most};
        for (int a = 0; a < amounts.length; a++) {
            for (int b = 0; b < amounts.length; b++) {
                boolean[] due = {a < b, a == b, a > b};
                for (int sign = 0; sign < 3; sign++) {
                    String condition = amounts[a] + "<=>".charAt(sign) + amounts[b];
                    Check.reads(x, 0, "obeys 1 when " + condition + ";obeys 2;", 2);
                    Check.due(condition, x.of(0, 6), due[sign] ? 1 : 2);
                }
            }
            x = new LateOrders();
            x.subject(0, 0);
        }
    }

    /** Ints, which wrap: of + and - and *. */
    private static void wraps() {
        LateOrders x = new LateOrders();
        x.subject(0, 0);
        // 9999 * 9999 is 99980001, 21 times it 2099580021, and 47903626 more is the greatest int.
        String most = "9999*9999*21+9999*4790+7999+417";
        so(x, most + ">0");
        so(x, most + "+1<0");
        so(x, most + "+1-1>0");
        so(x, most + "=" + most);
        so(x, "0-9999*9999*21-9999*4790-7999-417-1<0");
        so(x, "0-9999*9999*21-9999*4790-7999-417-1-1>0");
        so(x, "9999*9999*21>0");
        // 22 times it is 2199560022, which wraps to -2095407274; 43 times is 4299140043, which wraps to 4172747.
        so(x, "9999*9999*22<0");
        so(x, "9999*9999*43=4172*1000+747");
        Check.reads(x, 0, "obeys 9999*9999*43/9999;", 1);
        Check.due("417", x.of(0, 6), 417);
    }

    /** / goes towards 0, of what is below it too. */
    private static void towardsNought() {
        LateOrders x = new LateOrders();
        x.subject(0, 0);
        so(x, "7/2=3");
        so(x, "8/2=4");
        so(x, "1/2=0");
        so(x, "0-7/2=0-3");
        // -2095407274 by 9999 is -209561 and some; by 1000 -2095407 and some.
        so(x, "9999*9999*22/9999=0-209*1000-561");
        so(x, "9999*9999*22/1000=0-2095*1000-407");
        so(x, "9999*9999*22/1=0-2095*1000*1000-407*1000-274");
        so(x, "9999*9999*22/9999/9999/9999=0");
    }

    /** obeys held to 0 .. 1000, tires and grows to 0 .. 99. */
    private static void heldTo() {
        String[] words = {"obeys", "tires", "grows"};
        int[] most = {1000, 99, 99};
        for (int i = 0; i < 3; i++) {
            LateOrders x = new LateOrders();
            x.subject(0, 0);
            String[] amounts = {"0-1", "0", "1", "" + (most[i] - 1), "" + most[i], "" + (most[i] + 1), "9999", "0-9999",
                "9999*9999*21", "9999*9999*22", "0-9999*9999*22"};
            int[] due = {0, 0, 1, most[i] - 1, most[i], most[i], most[i], 0, most[i], 0, most[i]};
            for (int j = 0; j < due.length; j++) {
                Check.reads(x, 0, words[i] + " " + amounts[j] + ";", 1);
                Check.due(words[i] + " " + amounts[j], i < 2 ? x.of(0, 6 + i) : x.place(0, 5), due[j]);
                Check.reads(x, 0, words[i] + " " + amounts[j] + " when 1=1;", 1);
                Check.due(words[i] + " " + amounts[j] + " when", i < 2 ? x.of(0, 6 + i) : x.place(0, 5), due[j]);
            }
        }
        LateOrders x = new LateOrders();
        x.subject(0, 9);
        Check.due("500 and 50 times 9", x.of(0, 6), 950);
        x.set(3, 0, 0);
        x.set(4, 0, 99);
        Check.due("500 less 5 times 99", x.of(0, 6), 5);
        Check.due("tires: 5", x.of(0, 7), 5);
        Check.due("grows: 3", x.place(0, 5), 3);
    }

    /** zeal, tired, done, what: 0 of grows; fire, wall, high, sea, crowd, day as they are. */
    private static void growsKnowsNobody() {
        LateOrders x = new LateOrders();
        x.subject(0, 9);
        x.subject(0, 8);
        Check.reads(x, 0, "obeys 1000;grows 0;", 2);
        x.order(5, 0, 0, false);
        x.order(4, 0, 0, false);
        x.order(4, 1, 0, false);
        x.days(2);
        x.set(4, 0, 77);
        x.set(4, 1, 66);
        x.set(1, 0, 12);
        x.set(2, 0, 13);
        x.set(0, 0, 6);
        x.set(5, 0, 7 - 1);
        String[] names = {"zeal", "tired", "done", "what", "fire", "wall", "high", "sea", "crowd", "day"};
        int[] grows = {0, 0, 0, 0, 12, 13, 6, 6, 2, 2};
        int[] tires = {9, 77, 1, 4, 12, 13, 6, 6, 2, 2};
        for (int i = 0; i < names.length; i++) {
            Check.reads(x, 0, "grows " + names[i] + ";tires " + names[i] + ";obeys " + names[i] + ";", 3);
            Check.due("grows " + names[i], x.place(0, 5), grows[i]);
            Check.due("tires " + names[i], x.of(0, 7), tires[i]);
            Check.due("obeys " + names[i], x.of(0, 6), tires[i]);
        }
        Check.reads(x, 0, "grows fire+wall+10*high+20*crowd;", 1);
        Check.due("grows at another PLACE", x.place(11, 5), 50);
        // crowd: how many ALIVE are AT the PLACE.
        x.subject(3, 0);
        x.set(0, 0, 0);
        x.set(0, 3, 9);
        Check.reads(x, 0, "grows 40+crowd;obeys 40+crowd;", 2);
        x.days(1);
        Check.due("they drowned", x.look(1), 4);
        Check.due("crowd at 0", x.place(0, 5), 40);
        Check.due("crowd about one who drowned", x.of(1, 6), 40);
        Check.due("crowd at 3", x.place(3, 5), 41);
        Check.due("crowd about him who lives", x.of(2, 6), 41);
    }

    /** E of the first line with that word whose B is so, or that has none. */
    private static void firstLineThatIsSo() {
        LateOrders x = new LateOrders();
        x.subject(0, 5);
        Check.reads(x, 0, "tires 1;obeys 2 when zeal=4;obeys 3 when zeal=5;obeys 4 when zeal=5;obeys 5;grows 6;", 6);
        Check.due("obeys: the first that is so", x.of(0, 6), 3);
        Check.due("tires: the first", x.of(0, 7), 1);
        Check.due("grows: the last", x.place(0, 5), 6);
        Check.reads(x, 0, "obeys 5;obeys 3 when zeal=5;", 2);
        Check.due("one without B ahead", x.of(0, 6), 5);
        Check.reads(x, 0, "obeys 5 when 1=2;tires 7 when 1=2;grows 7 when 1=2;", 3);
        Check.due("none is so: obeys", x.of(0, 6), 750);
        Check.due("none is so: tires", x.of(0, 7), 5);
        Check.due("none is so: grows", x.place(0, 5), 3);
        Check.reads(x, 0, "obeys 0 when zeal=5;tires 0;grows 0;", 3);
        Check.due("0 is told as well: obeys", x.of(0, 6), 0);
        Check.due("0 is told as well: tires", x.of(0, 7), 0);
        Check.due("0 is told as well: grows", x.place(0, 5), 0);
    }
}
