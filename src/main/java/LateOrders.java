import java.util.Arrays;

/** A duchy in which whatever is commanded is done, exactly, tomorrow. ../shared/DOC.md tells its promises. */
public final class LateOrders {
    public static final int NONE = -1;

    private static final int PLACES = 12;
    private static final int ALL_PLACES = (1 << PLACES) - 1;
    private static final int SUBJECTS = 18;
    private static final int ORDERS = 24;
    private static final int MOST = 99;
    private static final int LAST_DAY = 9999;
    private static final int DAYS_AT_ONCE = 60;
    private static final int UNDONE = 6;

    private static final int TAPE = 400;
    private static final int LINES = 16;
    private static final int LAW_TEXT = 0;
    private static final int LEDGER_TEXT = 1;
    private static final int TIDE_TEXT = 2;
    private static final int ROADS_TEXT = 3;

    private static final int MARCHES = 0;
    private static final int RESTS = 1;
    private static final int BUILDS = 2;
    private static final int QUENCHES = 3;
    private static final int STANDS = 4;
    private static final int STOPS = 5;

    private static final int BOOK_LINES = 150;
    private static final int BOOK_WIDTH = 4;
    private static final int OBEYED = 0;
    private static final int MISSED = 1;
    private static final int STOPPED = 2;
    private static final int DROWNED = 3;

    // Tokens: a NUMBER is itself (0 .. 9999), a KEYWORD is WORD and its place in KEYWORDS, a sign is SIGN and its byte.
    private static final int WORD = 10000;
    private static final int SIGN = 20000;
    private static final int NO_TOKEN = 30000;
    private static final int END = 30001;
    private static final String KEYWORDS =
        "obeys tires grows zeal tired what fire wall high sea crowd done day when or and not on order march rest build quench stand stop daily place road ";
    private static final int OBEYS = WORD;
    private static final int TIRES = WORD + 1;
    private static final int GROWS = WORD + 2;
    private static final int ZEAL = WORD + 3;
    private static final int FIRE = WORD + 6;
    private static final int SEA = WORD + 9;
    private static final int DAY = WORD + 12;
    private static final int WHEN = WORD + 13;
    private static final int OR = WORD + 14;
    private static final int AND = WORD + 15;
    private static final int NOT = WORD + 16;
    private static final int ON = WORD + 17;
    private static final int ORDER = WORD + 18;
    private static final int MARCH = WORD + 19;
    private static final int DAILY = WORD + 25;
    private static final int PLACE = WORD + 26;
    private static final int ROAD = WORD + 27;
    private static final int LINE_ENDS = SIGN + ';';
    private static final int PLUS = SIGN + '+';
    private static final int MINUS = SIGN + '-';
    private static final int TIMES = SIGN + '*';
    private static final int BY = SIGN + '/';
    private static final int OPENS = SIGN + '(';
    private static final int CLOSES = SIGN + ')';
    private static final int LESS = SIGN + '<';
    private static final int ALIKE = SIGN + '=';
    private static final int MORE = SIGN + '>';

    private final Realm now = new Realm();
    private final Realm picture = new Realm();
    private boolean pictured;
    private final Duchy imagined = new Duchy();
    private final Days real = new Days(now, now.duchy, false);
    private final Days thought = new Days(now, imagined, true);
    private final Past past = new Past();
    private final Reader reader = new Reader();
    private final Reckoner reckoner = new Reckoner();
    private final int[] tape = new int[TAPE];
    private int bytes;

    public LateOrders() {
    }

    public int state(int v) {
        int was = now.duchy.state;
        now.duchy.state = v;
        past.forget();
        return was;
    }

    public int subject(int place, int zeal) {
        Duchy duchy = now.duchy;
        int who = duchy.subjects;
        if (!isPlace(place) || !within(zeal, 0, 9) || who < 0 || who >= SUBJECTS) {
            return NONE;
        }
        duchy.at[who] = place;
        duchy.zeal[who] = zeal;
        duchy.alive[who] = 1;
        duchy.subjects = who + 1;
        past.forget();
        return who;
    }

    public boolean set(int what, int who, int v) {
        boolean done = now.duchy.takes(what, who, v);
        if (done) {
            past.forget();
        }
        return done;
    }

    public int order(int what, int who, int where, boolean goesOn) {
        Duchy duchy = now.duchy;
        boolean can = within(what, MARCHES, STOPS) && duchy.lives(who)
            && (what != MARCHES || isPlace(where)) && !(what == STOPS && goesOn);
        if (!can || duchy.todays >= ORDERS) {
            return NONE;
        }
        past.keep(duchy);
        duchy.given(packed(what, who, what == MARCHES ? where : 0, goesOn));
        return duchy.todays;
    }

    public int builds(int place) {
        Duchy duchy = now.duchy;
        if (!isPlace(place) || duchy.wall[place] >= MOST) {
            return NONE;
        }
        past.keep(duchy);
        duchy.wall[place]++;
        return duchy.wall[place];
    }

    public int days(int n) {
        if (!within(n, 1, DAYS_AT_ONCE) || now.duchy.day > LAST_DAY - n) {
            return NONE;
        }
        int done = 0;
        for (int i = 0; i < n; i++) {
            past.keep(now.duchy);
            done += real.goBy();
        }
        return done;
    }

    public int feed(int a, int b, int c, int d, int e) {
        if (bytes > TAPE - 20) {
            return NONE;
        }
        layOnTape(a);
        layOnTape(b);
        layOnTape(c);
        layOnTape(d);
        layOnTape(e);
        return bytes;
    }

    public boolean end(int n) {
        if (n < 0 || n > bytes) {
            return false;
        }
        bytes = n;
        return true;
    }

    public int text(int k) {
        boolean read = reader.reads(k, tape, bytes, now.duchy.subjects);
        bytes = 0;
        if (!read) {
            return NONE;
        }
        now.learns(k, reader.draft);
        if (k != LAW_TEXT) {
            past.forget();
        }
        return reader.draft.lines;
    }

    public int fault(int what) {
        return what == 0 ? reader.tokens.fault : what == 1 ? reader.tokens.faultAt : NONE;
    }

    public int place(int place, int what) {
        if (!isPlace(place)) {
            return NONE;
        }
        Duchy duchy = now.duchy;
        switch (what) {
            case 0: return duchy.high[place];
            case 1: return duchy.fire[place];
            case 2: return duchy.wall[place];
            case 3: return duchy.thoseAt(place);
            case 4: return now.ways.beside[place];
            case 5: return real.law.tells(GROWS, NONE, place, 0);
            default: return NONE;
        }
    }

    public int of(int subject, int what) {
        Duchy duchy = now.duchy;
        if (!duchy.isSubject(subject)) {
            return NONE;
        }
        switch (what) {
            case 0: return duchy.at[subject];
            case 1: return duchy.zeal[subject];
            case 2: return duchy.tired[subject];
            case 3: return duchy.alive[subject];
            case 4: return duchy.done[subject];
            case 5: return duchy.standing[subject];
            case 6: return real.law.tells(OBEYS, subject, duchy.at[subject], STANDS);
            case 7: return real.law.tells(TIRES, subject, duchy.at[subject], STANDS);
            default: return NONE;
        }
    }

    public int book(int i, int what) {
        if (i < 0 || i >= now.duchy.written || i >= BOOK_LINES || !within(what, 0, BOOK_WIDTH - 1)) {
            return NONE - 1;
        }
        return now.book[i * BOOK_WIDTH + what];
    }

    public int goes(int n, int what) {
        if (!within(n, 1, DAYS_AT_ONCE) || !within(what, 0, 3)) {
            return NONE;
        }
        imagined.becomes(now.duchy);
        for (int i = 0; i < n; i++) {
            thought.goBy();
        }
        switch (what) {
            case 0: return Integer.bitCount(imagined.allAlive());
            case 1: return sum(imagined.fire);
            case 2: return sum(imagined.wall);
            default: return imagined.missed;
        }
    }

    public int arrives(int subject, int place) {
        if (!now.duchy.lives(subject) || !isPlace(place)) {
            return NONE;
        }
        imagined.becomes(now.duchy);
        for (int day = 0; day <= DAYS_AT_ONCE; day++) {
            if (imagined.at[subject] == place) {
                return day;
            }
            thought.goBy();
        }
        return NONE;
    }

    public int bath(int h, int g, int yw, int what) {
        int n = Math.floorDiv(what, 10);
        int asked = Math.floorMod(what, 10);
        if (!within(h, 0, MOST) || !within(g, 0, MOST) || !within(yw, 0, 99) || !within(n, 1, 10) || asked > 1) {
            return NONE;
        }
        int order = reckoner.bestFirst(h, g, yw, n);
        return asked == 0 ? reckoner.off : order;
    }

    public int follows(int ab, int d, int m, int k) {
        if (!within(ab, 0, 999999) || !within(d, 1, 5) || !within(m, 1, 1000) || !within(k, 0, 1000000)) {
            return NONE;
        }
        return reckoner.numberOfDay(ab, d, m, k);
    }

    public int caught(int p, int q) {
        if (!isPlace(p) || (q != NONE && !isPlace(q))) {
            return NONE;
        }
        return reckoner.hunt(now.ways, p, q);
    }

    public int said(int x, int y, int words, int what) {
        if (!within(x, 0, 999) || !within(y, 0, 999) || !within(words, 0, 31) || !within(what, 0, 1)) {
            return NONE;
        }
        int few = reckoner.fewestWords(x, y, words);
        return what == 0 || few == NONE ? few : reckoner.ways[y];
    }

    public int prophet(int yes) {
        return now.prophets.tell(yes, yes == NONE, within(yes, 0, 1023));
    }

    public int wrong(int was, int n, int i) {
        if (!within(was, 0, 1023) || !within(n, 0, 10) || i < NONE - 1 || i >= now.prophets.count) {
            return NONE;
        }
        int first = (1 << n) - 1;
        if (i == NONE) {
            return Reckoner.bestProphet(now.prophets, was, first);
        }
        if (i < NONE) {
            return Reckoner.fooled(now.prophets, was, n);
        }
        return Integer.bitCount((now.prophets.row(i) ^ was) & first);
    }

    public int spell(int digits) {
        return now.words.tell(digits, digits == NONE, Reckoner.isWord(digits));
    }

    public int together(int what) {
        if (!within(what, 0, 1)) {
            return NONE;
        }
        int fewest = reckoner.layTogether(now.words);
        return what == 0 ? fewest : reckoner.orders;
    }

    public int ranks(int n, int what) {
        if (!within(n, 1, 999) || !within(what, 0, 1)) {
            return NONE;
        }
        int many = 0;
        int files = n;
        for (int ranks = n; ranks >= 1; ranks--) {
            if (n % ranks == 0) {
                many++;
                files = ranks * ranks >= n ? ranks : files;
            }
        }
        return what == 0 ? many : files;
    }

    public int comer(int minute, int needs) {
        return now.comers.tell(minute * 100 + needs, minute == NONE, within(minute, 0, 99) && within(needs, 1, 20));
    }

    public int queue(int k, int what) {
        if (!within(k, 1, 3) || !within(what, 0, 2)) {
            return NONE;
        }
        reckoner.serve(now.comers, k);
        switch (what) {
            case 0: return reckoner.waitedTogether();
            case 1: return reckoner.through;
            default: return reckoner.mostWaiting();
        }
    }

    public int letter(int sent, int comes) {
        return now.letters.tell(sent * 100 + comes, sent == NONE, within(sent, 0, 99) && within(comes, sent + 1, 99));
    }

    public int cross(int what) {
        switch (what) {
            case 0: return Reckoner.couples(now.letters);
            case 1: return reckoner.fewestRoads(now.letters);
            default: return NONE;
        }
    }

    public int bell(int places, int what) {
        if (!within(places, 1, ALL_PLACES) || !within(what, 0, 1)) {
            return NONE;
        }
        int heard = places;
        int last = ALL_PLACES;
        int day = 0;
        for (int i = 0; i < PLACES && heard != ALL_PLACES; i++) {
            int more = heard | now.ways.besideAll(heard);
            last = more & ~heard;
            heard = more;
            day++;
        }
        if (heard != ALL_PLACES) {
            return NONE;
        }
        return what == 0 ? day : leastOf(last);
    }

    public int sits(int what) {
        switch (what) {
            case 0: return now.mostAtOnePlace();
            case 1: return now.duchy.allAlive() == 0 ? 0 : now.roadsToMeet(now.meetingPlace());
            case 2: return now.duchy.allAlive() == 0 ? NONE : now.meetingPlace();
            default: return NONE;
        }
    }

    public int lights(int row, int n, int what) {
        if (!within(row, 0, 255) || !within(what, 0, 1)) {
            return NONE;
        }
        if (what == 1) {
            return reckoner.firstAgain(row);
        }
        return within(n, 0, 100000) ? Reckoner.rowBehind(row, n) : NONE;
    }

    public int game(int n) {
        return within(n, 1, 100000) ? Reckoner.firstTaken(n) : NONE;
    }

    public boolean undo() {
        return past.goBack(now.duchy);
    }

    public boolean image(boolean taken) {
        if (taken) {
            picture.becomes(now);
            pictured = true;
        } else if (pictured) {
            now.becomes(picture);
            past.forget();
        }
        return pictured;
    }

    public int look(int what) {
        Duchy duchy = now.duchy;
        switch (what) {
            case 0: return duchy.subjects;
            case 1: return duchy.allAlive();
            case 2: return duchy.sea;
            case 3: return duchy.drowned;
            case 4: return duchy.missed;
            case 5: return duchy.day;
            case 6: return duchy.todays;
            case 7: return duchy.befores;
            case 8: return duchy.written;
            case 9: return duchy.state;
            case 10: return now.law.lines;
            case 11: return now.ledger.lines;
            case 12: return now.tide.lines;
            case 13: return now.roads.lines;
            case 14: return past.count;
            default: return NONE;
        }
    }

    private void layOnTape(int number) {
        for (int shift = 24; shift >= 0; shift -= 8) {
            if (bytes >= 0 && bytes < TAPE) {
                tape[bytes] = number >>> shift & 255;
                bytes++;
            }
        }
    }

    private static boolean within(int v, int least, int most) {
        return v >= least && v <= most;
    }

    private static int held(int v, int least, int most) {
        return Math.max(least, Math.min(most, v));
    }

    private static boolean isPlace(int place) {
        return place >= 0 && place < PLACES;
    }

    private static int leastOf(int set) {
        return Integer.bitCount((set & -set) - 1);
    }

    private static int sum(int[] row) {
        int all = 0;
        for (int v : row) {
            all += v;
        }
        return all;
    }

    // An order in one number, so that what is left of it modulo 1000 is what of() tells of a STANDING.
    private static int packed(int what, int who, int where, boolean goesOn) {
        return what + 10 * where + 1000 * who + (goesOn ? 100000 : 0);
    }

    /** All that THE IMAGE holds. */
    private static final class Realm {
        private final Duchy duchy = new Duchy();
        private final int[] book = new int[BOOK_LINES * BOOK_WIDTH];
        private final Text law = new Text(TAPE);
        private final Text ledger = new Text(0);
        private final Text tide = new Text(0);
        private final Text roads = new Text(0);
        private final Ways ways = new Ways();
        private final Told prophets = new Told(8);
        private final Told words = new Told(5);
        private final Told comers = new Told(10);
        private final Told letters = new Told(10);

        private void becomes(Realm other) {
            duchy.becomes(other.duchy);
            System.arraycopy(other.book, 0, book, 0, book.length);
            law.becomes(other.law);
            ledger.becomes(other.ledger);
            tide.becomes(other.tide);
            learns(ROADS_TEXT, other.roads);
            prophets.becomes(other.prophets);
            words.becomes(other.words);
            comers.becomes(other.comers);
            letters.becomes(other.letters);
        }

        private void learns(int k, Text draft) {
            switch (k) {
                case LAW_TEXT: law.becomes(draft); break;
                case LEDGER_TEXT: ledger.becomes(draft); break;
                case TIDE_TEXT: tide.becomes(draft); break;
                default:
                    roads.becomes(draft);
                    ways.measure(roads);
                    break;
            }
        }

        private void write(int what, int who, int much) {
            int line = duchy.written;
            if (line < 0 || line >= BOOK_LINES) {
                return;
            }
            int cell = line * BOOK_WIDTH;
            book[cell] = duchy.day;
            book[cell + 1] = what;
            book[cell + 2] = who;
            book[cell + 3] = much;
            duchy.written++;
        }

        private int mostAtOnePlace() {
            int most = 0;
            for (int place = 0; place < PLACES; place++) {
                most = Math.max(most, Integer.bitCount(duchy.thoseAt(place)));
            }
            return most;
        }

        private int meetingPlace() {
            int best = NONE;
            int fewest = NONE;
            for (int place = 0; place < PLACES; place++) {
                int roadsTo = roadsToMeet(place);
                if (roadsTo != NONE && (best == NONE || roadsTo < fewest)) {
                    best = place;
                    fewest = roadsTo;
                }
            }
            return best;
        }

        private int roadsToMeet(int place) {
            int all = 0;
            for (int who = 0; who < SUBJECTS; who++) {
                if (duchy.lives(who)) {
                    int far = ways.far(duchy.at[who], place);
                    if (far == NONE) {
                        return NONE;
                    }
                    all += far;
                }
            }
            return all;
        }
    }

    /** All that UNDO brings back; of THE BOOK how many lines alone, as it only ever grows behind them. */
    private static final class Duchy {
        private final int[] high = new int[PLACES];
        private final int[] fire = new int[PLACES];
        private final int[] wall = new int[PLACES];
        private final int[] at = new int[SUBJECTS];
        private final int[] zeal = new int[SUBJECTS];
        private final int[] tired = new int[SUBJECTS];
        private final int[] alive = new int[SUBJECTS];
        private final int[] done = new int[SUBJECTS];
        private final int[] standing = new int[SUBJECTS];
        private final int[] today = new int[ORDERS];
        private final int[] before = new int[ORDERS];
        private int subjects;
        private int todays;
        private int befores;
        private int sea;
        private int drowned;
        private int missed;
        private int day;
        private int state;
        private int written;

        private Duchy() {
            Arrays.fill(high, 5);
            Arrays.fill(standing, NONE);
        }

        private void becomes(Duchy other) {
            System.arraycopy(other.high, 0, high, 0, PLACES);
            System.arraycopy(other.fire, 0, fire, 0, PLACES);
            System.arraycopy(other.wall, 0, wall, 0, PLACES);
            System.arraycopy(other.at, 0, at, 0, SUBJECTS);
            System.arraycopy(other.zeal, 0, zeal, 0, SUBJECTS);
            System.arraycopy(other.tired, 0, tired, 0, SUBJECTS);
            System.arraycopy(other.alive, 0, alive, 0, SUBJECTS);
            System.arraycopy(other.done, 0, done, 0, SUBJECTS);
            System.arraycopy(other.standing, 0, standing, 0, SUBJECTS);
            System.arraycopy(other.today, 0, today, 0, ORDERS);
            System.arraycopy(other.before, 0, before, 0, ORDERS);
            subjects = other.subjects;
            todays = other.todays;
            befores = other.befores;
            sea = other.sea;
            drowned = other.drowned;
            missed = other.missed;
            day = other.day;
            state = other.state;
            written = other.written;
        }

        private boolean takes(int what, int who, int v) {
            boolean known = what == 5 || (what < 3 ? isPlace(who) : isSubject(who));
            int most = what == 0 || what == 3 || what == 5 ? 9 : MOST;
            if (!known || !within(what, 0, 5) || !within(v, 0, most)) {
                return false;
            }
            switch (what) {
                case 0: high[who] = v; break;
                case 1: fire[who] = v; break;
                case 2: wall[who] = v; break;
                case 3: zeal[who] = v; break;
                case 4: tired[who] = v; break;
                default: sea = v; break;
            }
            return true;
        }

        private void given(int order) {
            if (todays >= 0 && todays < ORDERS) {
                today[todays] = order;
                todays++;
            }
        }

        private boolean isSubject(int who) {
            return who >= 0 && who < subjects && who < SUBJECTS;
        }

        private boolean lives(int who) {
            return isSubject(who) && alive[who] == 1;
        }

        private int thoseAt(int place) {
            int those = 0;
            for (int who = 0; who < subjects && who < SUBJECTS; who++) {
                if (alive[who] == 1 && at[who] == place) {
                    those |= 1 << who;
                }
            }
            return those;
        }

        private int allAlive() {
            int those = 0;
            for (int who = 0; who < SUBJECTS; who++) {
                if (lives(who)) {
                    those |= 1 << who;
                }
            }
            return those;
        }

        private int draw(int m) {
            state = state * 1664525 + 1013904223;
            return m > 0 ? (state >>> 8) % m : 0;
        }
    }

    /** The days of a duchy, as they are or in thought. */
    private static final class Days {
        private final Realm realm;
        private final Duchy duchy;
        private final Law law;
        private final boolean inThought;
        private int obeyed;

        private Days(Realm realm, Duchy duchy, boolean inThought) {
            this.realm = realm;
            this.duchy = duchy;
            this.law = new Law(realm.law, duchy);
            this.inThought = inThought;
        }

        private int goBy() {
            obeyed = 0;
            tideComes();
            obeyStanding(obeyOrders());
            firesGrow();
            seaComes();
            nightFalls();
            return obeyed;
        }

        private void tideComes() {
            for (int line = 0; line < realm.tide.lines; line++) {
                if (realm.tide.cell(line, 0) == duchy.day) {
                    int place = realm.tide.cell(line, 1);
                    int v = realm.tide.cell(line, 2);
                    if (isPlace(place)) {
                        duchy.fire[place] = v;
                    } else {
                        duchy.sea = v;
                    }
                }
            }
        }

        private int obeyOrders() {
            int ordered = 0;
            for (int i = 0; i < duchy.befores && i < ORDERS; i++) {
                int order = duchy.before[i];
                int who = order / 1000 % 100;
                ordered |= 1 << who;
                obey(who, order % 1000, order >= 100000);
            }
            return ordered;
        }

        private void obeyStanding(int ordered) {
            for (int who = 0; who < SUBJECTS; who++) {
                if ((ordered >> who & 1) == 0 && duchy.standing[who] != NONE) {
                    obey(who, duchy.standing[who], true);
                }
            }
        }

        private void obey(int who, int deed, boolean goesOn) {
            if (!duchy.lives(who)) {
                return;
            }
            int what = deed % 10;
            if (what == STOPS) {
                stop(who);
                return;
            }
            if (isObeyed(who, what)) {
                carryOut(who, what, deed / 10);
            } else {
                duchy.missed++;
                write(MISSED, who, what);
            }
            if (goesOn) {
                duchy.standing[who] = deed;
            }
        }

        private void stop(int who) {
            int deed = duchy.standing[who];
            write(STOPPED, who, deed == NONE ? NONE : deed % 10);
            duchy.standing[who] = NONE;
        }

        private boolean isObeyed(int who, int what) {
            int likely = law.tells(OBEYS, who, duchy.at[who], what);
            if (inThought) {
                return likely >= 500;
            }
            return likely > 0 && duchy.draw(1000) < likely;
        }

        private void carryOut(int who, int what, int where) {
            int place = duchy.at[who];
            int more = law.tells(TIRES, who, place, what);
            duchy.done[who]++;
            duchy.tired[who] = what == RESTS
                ? Math.max(0, duchy.tired[who] - 20) : Math.min(MOST, duchy.tired[who] + more);
            if (what == MARCHES) {
                duchy.at[who] = realm.ways.toward(place, where);
            } else if (what == BUILDS && isPlace(place)) {
                duchy.wall[place] = Math.min(MOST, duchy.wall[place] + 3);
            } else if (what == QUENCHES && isPlace(place)) {
                duchy.fire[place] = Math.max(0, duchy.fire[place] - 5);
            }
            write(OBEYED, who, what);
            obeyed++;
        }

        private void firesGrow() {
            for (int place = 0; place < PLACES; place++) {
                if (duchy.fire[place] > 0) {
                    int more = law.tells(GROWS, NONE, place, 0);
                    duchy.fire[place] = Math.min(MOST, duchy.fire[place] + more);
                }
            }
        }

        private void seaComes() {
            for (int place = 0; place < PLACES; place++) {
                if (duchy.sea > duchy.high[place] && duchy.sea > duchy.wall[place] / 10) {
                    drown(place);
                    duchy.fire[place] = 0;
                }
            }
        }

        private void drown(int place) {
            for (int who = 0; who < SUBJECTS; who++) {
                if (duchy.lives(who) && duchy.at[who] == place) {
                    duchy.alive[who] = 0;
                    duchy.drowned++;
                    write(DROWNED, who, place);
                }
            }
        }

        private void nightFalls() {
            for (int line = 0; line < realm.ledger.lines; line++) {
                if (realm.ledger.cell(line, 0) == duchy.day) {
                    duchy.given(realm.ledger.cell(line, 1));
                }
            }
            System.arraycopy(duchy.today, 0, duchy.before, 0, ORDERS);
            duchy.befores = duchy.todays;
            duchy.todays = 0;
            duchy.day++;
        }

        private void write(int what, int who, int much) {
            if (!inThought) {
                realm.write(what, who, much);
            }
        }
    }

    /** What can be undone: the duchy as it was ahead of each of the latest steps, in a ring. */
    private static final class Past {
        private final Duchy[] steps = new Duchy[UNDONE];
        private int latest;
        private int count;

        private Past() {
            for (int i = 0; i < UNDONE; i++) {
                steps[i] = new Duchy();
            }
        }

        private void keep(Duchy duchy) {
            latest = (latest + 1) % UNDONE;
            count = Math.min(UNDONE, count + 1);
            Duchy step = steps[latest];
            if (step != null) {
                step.becomes(duchy);
            }
        }

        private boolean goBack(Duchy duchy) {
            Duchy step = steps[latest];
            if (count == 0 || step == null) {
                return false;
            }
            duchy.becomes(step);
            latest = (latest + UNDONE - 1) % UNDONE;
            count--;
            return true;
        }

        private void forget() {
            count = 0;
        }
    }

    /** A list that is told for thought. */
    private static final class Told {
        private final int[] rows;
        private int count;

        private Told(int most) {
            rows = new int[Math.max(0, most)];
        }

        private int tell(int row, boolean none, boolean can) {
            if (none) {
                count = 0;
                return 0;
            }
            if (!can || count < 0 || count >= rows.length) {
                return NONE;
            }
            rows[count] = row;
            count++;
            return count;
        }

        private int row(int i) {
            return i >= 0 && i < count && i < rows.length ? rows[i] : 0;
        }

        private void becomes(Told other) {
            System.arraycopy(other.rows, 0, rows, 0, Math.min(rows.length, other.rows.length));
            count = other.count;
        }
    }

    /**
     * A TEXT as it was read: lines of four cells. LEDGER: day, order. TIDE: day, PLACE (NONE: sea), how much.
     * ROADS: both PLACES. THE LAW: word, where in the code its E begins, its B, and both end. In the code signs stand
     * behind what they join, so that it needs no tree.
     */
    private static final class Text {
        private static final int WIDTH = 4;
        private final int[] cells = new int[LINES * WIDTH];
        private final int[] code;
        private int lines;
        private int codes;

        private Text(int room) {
            code = new int[Math.max(0, room)];
        }

        private void clear() {
            lines = 0;
            codes = 0;
        }

        private void becomes(Text other) {
            System.arraycopy(other.cells, 0, cells, 0, cells.length);
            System.arraycopy(other.code, 0, code, 0, Math.min(code.length, other.code.length));
            lines = other.lines;
            codes = other.codes;
        }

        private boolean isFull() {
            return lines >= LINES;
        }

        private void add(int a, int b, int c, int d) {
            if (lines < 0 || isFull()) {
                return;
            }
            int cell = lines * WIDTH;
            cells[cell] = a;
            cells[cell + 1] = b;
            cells[cell + 2] = c;
            cells[cell + 3] = d;
            lines++;
        }

        private int cell(int line, int i) {
            return line >= 0 && line < LINES && i >= 0 && i < WIDTH ? cells[line * WIDTH + i] : NONE;
        }

        private void lay(int token) {
            if (codes >= 0 && codes < code.length) {
                code[codes] = token;
                codes++;
            }
        }

        private int codeAt(int i) {
            return i >= 0 && i < code.length ? code[i] : 0;
        }
    }

    /** THE LAW, asked about a duchy. */
    private static final class Law {
        private static final int FACTS = DAY - ZEAL + 1;
        // Two signs wait in each of nine open conditions, and three numbers in what is compared, at most.
        private static final int DEEPEST = 32;
        private final Text text;
        private final Duchy duchy;
        private final int[] facts = new int[FACTS];
        private final int[] stack = new int[DEEPEST];

        private Law(Text text, Duchy duchy) {
            this.text = text;
            this.duchy = duchy;
        }

        private int tells(int word, int who, int place, int what) {
            learn(who, place, what);
            int most = word == OBEYS ? 1000 : MOST;
            for (int line = 0; line < text.lines; line++) {
                int when = text.cell(line, 2);
                int to = text.cell(line, 3);
                if (text.cell(line, 0) == word && (when == to || value(when, to) != 0)) {
                    return held(value(text.cell(line, 1), when), 0, most);
                }
            }
            return held(usual(word), 0, most);
        }

        private int usual(int word) {
            switch (word) {
                case OBEYS: return 500 + 50 * facts[0] - 5 * facts[1];
                case TIRES: return 5;
                default: return 3;
            }
        }

        // In the order of KEYWORDS.
        private void learn(int who, int place, int what) {
            boolean somebody = duchy.isSubject(who);
            boolean somewhere = isPlace(place);
            facts[0] = somebody ? duchy.zeal[who] : 0;
            facts[1] = somebody ? duchy.tired[who] : 0;
            facts[2] = somebody ? what : 0;
            facts[3] = somewhere ? duchy.fire[place] : 0;
            facts[4] = somewhere ? duchy.wall[place] : 0;
            facts[5] = somewhere ? duchy.high[place] : 0;
            facts[6] = duchy.sea;
            facts[7] = Integer.bitCount(duchy.thoseAt(place));
            facts[8] = somebody ? duchy.done[who] : 0;
            facts[9] = duchy.day;
        }

        private int value(int from, int to) {
            int top = 0;
            for (int i = from; i < to; i++) {
                int token = text.codeAt(i);
                int fact = token - ZEAL;
                if (token < WORD || (fact >= 0 && fact < FACTS)) {
                    if (top < DEEPEST) {
                        stack[top] = token < WORD ? token : facts[fact];
                        top++;
                    }
                } else if (token == NOT) {
                    if (top > 0) {
                        stack[top - 1] = 1 - stack[top - 1];
                    }
                } else if (top > 1) {
                    top--;
                    stack[top - 1] = joined(token, stack[top - 1], stack[top]);
                }
            }
            return stack[0];
        }

        private static int joined(int sign, int a, int b) {
            switch (sign) {
                case PLUS: return a + b;
                case MINUS: return a - b;
                case TIMES: return a * b;
                case BY: return b == 0 ? 0 : a / b;
                case LESS: return a < b ? 1 : 0;
                case ALIKE: return a == b ? 1 : 0;
                case MORE: return a > b ? 1 : 0;
                case AND: return a & b;
                case OR: return a | b;
                default: return 0;
            }
        }
    }

    /** ROADS as sets of PLACES, and how far each PLACE is from each. */
    private static final class Ways {
        private final int[] beside = new int[PLACES];
        private final int[] roads = new int[PLACES * PLACES];

        private Ways() {
            measureAll();
        }

        private void measure(Text text) {
            Arrays.fill(beside, 0);
            for (int line = 0; line < text.lines; line++) {
                int a = text.cell(line, 0);
                int b = text.cell(line, 1);
                if (isPlace(a) && isPlace(b)) {
                    beside[a] |= 1 << b;
                    beside[b] |= 1 << a;
                }
            }
            measureAll();
        }

        private void measureAll() {
            Arrays.fill(roads, NONE);
            for (int from = 0; from < PLACES; from++) {
                int reached = 0;
                int edge = 1 << from;
                for (int far = 0; far < PLACES && edge != 0; far++) {
                    reached |= edge;
                    for (int to = 0; to < PLACES; to++) {
                        if ((edge >> to & 1) != 0) {
                            roads[from * PLACES + to] = far;
                        }
                    }
                    edge = besideAll(edge) & ~reached;
                }
            }
        }

        private int besideAll(int set) {
            int all = 0;
            for (int place = 0; place < PLACES; place++) {
                if ((set >> place & 1) != 0) {
                    all |= beside[place];
                }
            }
            return all;
        }

        private int far(int from, int to) {
            return isPlace(from) && isPlace(to) ? roads[from * PLACES + to] : NONE;
        }

        private int toward(int from, int to) {
            int far = far(from, to);
            if (far <= 0) {
                return from;
            }
            for (int place = 0; place < PLACES; place++) {
                if (far(from, place) == 1 && far(place, to) == far - 1) {
                    return place;
                }
            }
            return from;
        }
    }

    /** The TAPE, cut into tokens, of which one is next; and the FAULT that was met at it. */
    private static final class Tokens {
        private final int[] kinds = new int[TAPE + 1];
        private final int[] starts = new int[TAPE + 1];
        private int count;
        private int next;
        private int fault;
        private int faultAt = NONE;

        private void cut(int[] tape, int bytes) {
            int length = Math.min(bytes, tape.length);
            count = 0;
            next = 0;
            int to = 0;
            for (int from = 0; from < length; from = to) {
                int c = tape[from];
                to = from + 1;
                if (isLetter(c) || isDigit(c)) {
                    while (to < length && (isLetter(c) ? isLetter(tape[to]) : isDigit(tape[to]))) {
                        to++;
                    }
                    add(isLetter(c) ? keyword(tape, from, to) : number(tape, from, to), from);
                } else if (c != 32 && c != 10) {
                    add(isSign(c) ? SIGN + c : NO_TOKEN, from);
                }
            }
            add(END, length);
        }

        private void add(int kind, int start) {
            if (count >= 0 && count <= TAPE) {
                kinds[count] = kind;
                starts[count] = start;
                count++;
            }
        }

        private int token() {
            return next >= 0 && next < count && next <= TAPE ? kinds[next] : END;
        }

        private boolean fails(int number) {
            fault = number;
            faultAt = next >= 0 && next < count && next <= TAPE ? starts[next] : NONE;
            return false;
        }

        private static int keyword(int[] tape, int from, int to) {
            int word = WORD;
            int at = from;
            boolean same = true;
            for (int i = 0; i < KEYWORDS.length(); i++) {
                char c = KEYWORDS.charAt(i);
                if (c == ' ') {
                    if (same && at == to) {
                        return word;
                    }
                    word++;
                    at = from;
                    same = true;
                } else {
                    same = same && at >= 0 && at < to && at < tape.length && tape[at] == c;
                    at++;
                }
            }
            return NO_TOKEN;
        }

        private static int number(int[] tape, int from, int to) {
            if (to - from > 4) {
                return NO_TOKEN;
            }
            int v = 0;
            for (int i = Math.max(0, from); i < to && i < tape.length; i++) {
                v = v * 10 + tape[i] - '0';
            }
            return v;
        }

        private static boolean isLetter(int c) {
            return (c >= 'a' && c <= 'z') || (c >= 'A' && c <= 'Z');
        }

        private static boolean isDigit(int c) {
            return c >= '0' && c <= '9';
        }

        private static boolean isSign(int c) {
            return c == ';' || (c >= '<' && c <= '>') || (c >= '(' && c <= '+') || c == '-' || c == '/';
        }
    }

    /** Reads a TEXT into its draft, up to the first FAULT. */
    private static final class Reader {
        private static final int OPEN_AT_MOST = 8;
        // Beside the eight that are open, an and and an or in each of them and outside.
        private static final int WAITING_AT_MOST = 32;
        private final Tokens tokens = new Tokens();
        private final Text draft = new Text(TAPE);
        private final int[] waiting = new int[WAITING_AT_MOST];
        private int waits;
        private int open;
        private int subjects;

        private boolean reads(int k, int[] tape, int bytes, int count) {
            tokens.fault = 0;
            tokens.faultAt = NONE;
            tokens.cut(tape, bytes);
            draft.clear();
            subjects = count;
            boolean can = within(k, LAW_TEXT, ROADS_TEXT);
            // A line more than a text may have, so that its FAULT is met.
            for (int line = 0; line <= LINES && can && tokens.token() != END; line++) {
                switch (k) {
                    case LAW_TEXT: can = readsLaw(); break;
                    case LEDGER_TEXT: can = readsOrder(); break;
                    case TIDE_TEXT: can = readsTide(); break;
                    default: can = readsRoad(); break;
                }
            }
            return can;
        }

        private boolean takes(int token) {
            if (tokens.token() != token) {
                return tokens.fails(1);
            }
            tokens.next++;
            return true;
        }

        private boolean begins(int least, int most) {
            if (!within(tokens.token(), least, most)) {
                return tokens.fails(1);
            }
            if (draft.isFull()) {
                return tokens.fails(3);
            }
            tokens.next++;
            return true;
        }

        /** The NUMBER that stands here, or NONE and a FAULT. */
        private int number(int most) {
            int v = tokens.token();
            if (v >= WORD || v > most) {
                tokens.fails(v >= WORD ? 1 : 2);
                return NONE;
            }
            tokens.next++;
            return v;
        }

        private boolean readsOrder() {
            int day = begins(ON, ON) ? number(999) : NONE;
            int who = day != NONE && takes(ORDER) ? number(subjects - 1) : NONE;
            if (who == NONE) {
                return false;
            }
            int what = tokens.token() - MARCH;
            if (!within(what, MARCHES, STOPS)) {
                return tokens.fails(1);
            }
            tokens.next++;
            int where = what == MARCHES ? number(PLACES - 1) : 0;
            if (where == NONE) {
                return false;
            }
            boolean daily = what != STOPS && tokens.token() == DAILY;
            if (daily) {
                tokens.next++;
            }
            draft.add(day, packed(what, who, where, daily), 0, 0);
            return takes(LINE_ENDS);
        }

        private boolean readsTide() {
            int day = begins(ON, ON) ? number(999) : NONE;
            if (day == NONE) {
                return false;
            }
            boolean sea = tokens.token() == SEA;
            if (!takes(sea ? SEA : FIRE)) {
                return false;
            }
            int place = sea ? NONE : number(PLACES - 1);
            if (!sea && place == NONE) {
                return false;
            }
            int much = number(sea ? 9 : MOST);
            draft.add(day, place, much, 0);
            return much != NONE && takes(LINE_ENDS);
        }

        private boolean readsRoad() {
            int from = begins(PLACE, PLACE) ? number(PLACES - 1) : NONE;
            if (from == NONE || !takes(ROAD)) {
                return false;
            }
            if (tokens.token() == from) {
                return tokens.fails(2);
            }
            int to = number(PLACES - 1);
            draft.add(from, to, 0, 0);
            return to != NONE && takes(LINE_ENDS);
        }

        private boolean readsLaw() {
            int word = tokens.token();
            int from = draft.codes;
            if (!begins(OBEYS, GROWS) || !readsAmount()) {
                return false;
            }
            int when = draft.codes;
            if (tokens.token() == WHEN) {
                tokens.next++;
                if (!readsCondition()) {
                    return false;
                }
            }
            draft.add(word, from, when, draft.codes);
            return takes(LINE_ENDS);
        }

        /** E: a + or - waits until the product behind it is whole. */
        private boolean readsAmount() {
            int joins = NONE;
            boolean can = readsUnit();
            for (int i = 0; i <= TAPE && can; i++) {
                int sign = tokens.token();
                boolean product = sign == TIMES || sign == BY;
                if (!product && joins != NONE) {
                    draft.lay(joins);
                    joins = NONE;
                }
                if (!product && sign != PLUS && sign != MINUS) {
                    return true;
                }
                tokens.next++;
                can = sign == BY ? readsPart() : readsUnit();
                if (product) {
                    draft.lay(sign);
                } else {
                    joins = sign;
                }
            }
            return false;
        }

        private boolean readsUnit() {
            int token = tokens.token();
            if (token >= WORD && !within(token, ZEAL, DAY)) {
                return tokens.fails(1);
            }
            draft.lay(token);
            tokens.next++;
            return true;
        }

        private boolean readsPart() {
            int token = tokens.token();
            if (token >= WORD || token == 0) {
                return tokens.fails(token == 0 ? 2 : 1);
            }
            draft.lay(token);
            tokens.next++;
            return true;
        }

        /** B: words and ( wait until what they join or hold is whole. */
        private boolean readsCondition() {
            waits = 0;
            open = 0;
            for (int i = 0; i <= TAPE; i++) {
                if (!opens() || !readsAmount()) {
                    return false;
                }
                int sign = tokens.token();
                if (!within(sign, LESS, MORE)) {
                    return tokens.fails(1);
                }
                tokens.next++;
                if (!readsAmount()) {
                    return false;
                }
                draft.lay(sign);
                closes();
                int word = tokens.token();
                layJoins(word == AND);
                if (word != AND && word != OR) {
                    return open == 0 || tokens.fails(1);
                }
                await(word);
                tokens.next++;
            }
            return false;
        }

        private boolean opens() {
            for (int i = 0; i <= OPEN_AT_MOST; i++) {
                int token = tokens.token();
                if (token != NOT && token != OPENS) {
                    return true;
                }
                if (open >= OPEN_AT_MOST) {
                    return tokens.fails(3);
                }
                open++;
                await(token);
                tokens.next++;
            }
            return true;
        }

        /** A whole C ends each not before it, and with a ) what was joined since its (, which is a whole C again. */
        private void closes() {
            endNots();
            for (int i = 0; i < OPEN_AT_MOST && open > 0 && tokens.token() == CLOSES; i++) {
                layJoins(false);
                waits--;
                open--;
                tokens.next++;
                endNots();
            }
        }

        private void endNots() {
            for (int i = 0; i < OPEN_AT_MOST && lastWaiting() == NOT; i++) {
                draft.lay(NOT);
                waits--;
                open--;
            }
        }

        private void layJoins(boolean andsAlone) {
            for (int i = 0; i < WAITING_AT_MOST; i++) {
                int last = lastWaiting();
                if (last != AND && (andsAlone || last != OR)) {
                    return;
                }
                draft.lay(last);
                waits--;
            }
        }

        private int lastWaiting() {
            return waits > 0 && waits <= WAITING_AT_MOST ? waiting[waits - 1] : NONE;
        }

        private void await(int token) {
            if (waits >= 0 && waits < WAITING_AT_MOST) {
                waiting[waits] = token;
                waits++;
            }
        }
    }

    /** What is only thought, but for the days of a duchy. */
    private static final class Reckoner {
        private static final int WORDS_AT_MOST = 8;
        private static final int NUMBERS = 1000;
        // More than there are up to 100000.
        private static final int FIBONACCI_NUMBERS = 40;
        private final int[] later = new int[MOST + 1];
        private final int[] sooner = new int[MOST + 1];
        private int off;
        private final int[] parts = new int[5];
        private final int[] wide = new int[9];
        private final int[] caughtFrom = new int[PLACES];
        private final int[] trappedBy = new int[PLACES];
        private final int[] few = new int[NUMBERS];
        private final int[] ways = new int[NUMBERS];
        private final int[] reached = new int[NUMBERS];
        private final int[] row = new int[20];
        private final int[] digits = new int[4];
        private int orders;
        private final int[] comes = new int[10];
        private final int[] begins = new int[10];
        private final int[] free = new int[3];
        private int comers;
        private int through;
        private final int[] chains = new int[10];
        private final int[] rows = new int[257];

        /** What is best ordered today; off is then how much heat is off together. */
        private int bestFirst(int heat, int goal, int yw, int n) {
            int lost = yw % 10;
            Arrays.fill(later, 0);
            for (int day = n; day > 2; day--) {
                for (int h = 0; h <= MOST; h++) {
                    sooner[h] = offFrom(heated(h, bestOrder(h, goal, lost), lost), goal);
                }
                System.arraycopy(sooner, 0, later, 0, sooner.length);
            }
            int first = heated(heat, yw / 10, lost);
            off = Math.abs(first - goal);
            if (n < 2) {
                return 0;
            }
            int order = bestOrder(first, goal, lost);
            off += offFrom(heated(first, order, lost), goal);
            return order;
        }

        private int bestOrder(int heat, int goal, int lost) {
            int best = 0;
            for (int order = 1; order <= 9; order++) {
                if (offFrom(heated(heat, order, lost), goal) < offFrom(heated(heat, best, lost), goal)) {
                    best = order;
                }
            }
            return best;
        }

        private int offFrom(int heat, int goal) {
            return Math.abs(heat - goal) + (heat >= 0 && heat <= MOST ? later[heat] : 0);
        }

        private static int heated(int heat, int order, int lost) {
            return held(heat + order - lost, 0, MOST);
        }

        /**
         * The number of day k is a sum of parts of those of the first d days. The parts are led to day k by doubling
         * days, as a million of them one by one would be slow.
         */
        private int numberOfDay(int ab, int d, int m, int k) {
            if (m < 1 || d < 1 || d > parts.length) {
                return NONE;
            }
            Arrays.fill(parts, 0);
            parts[0] = 1 % m;
            for (int bit = 19; bit >= 0; bit--) {
                doubleDays(ab, d, m);
                if ((k >> bit & 1) == 1) {
                    addDay(ab, d, m);
                }
            }
            return sum(parts) % m;
        }

        private void doubleDays(int ab, int d, int m) {
            Arrays.fill(wide, 0);
            for (int i = 0; i < d; i++) {
                for (int j = 0; j < d; j++) {
                    wide[i + j] = (wide[i + j] + parts[i] * parts[j]) % m;
                }
            }
            for (int i = 2 * d - 2; i >= d; i--) {
                wide[i - 1] = (wide[i - 1] + ab / 1000 * wide[i]) % m;
                wide[i - d] = (wide[i - d] + ab % 1000 * wide[i]) % m;
            }
            System.arraycopy(wide, 0, parts, 0, d);
        }

        private void addDay(int ab, int d, int m) {
            int last = parts[d - 1];
            for (int i = d - 1; i > 0; i--) {
                parts[i] = parts[i - 1];
            }
            parts[0] = ab % 1000 * last % m;
            parts[d - 1] = ((d == 1 ? parts[0] : parts[d - 1]) + ab / 1000 * last) % m;
        }

        /** Step by step of the guard: where the other one is trapped if he is to go, and where he is caught if not. */
        private int hunt(Ways roads, int p, int q) {
            for (int place = 0; place < PLACES; place++) {
                caughtFrom[place] = 1 << place;
            }
            boolean more = true;
            for (int steps = 0; steps <= PLACES * PLACES && more; steps++) {
                if (q != NONE && (caughtFrom[p] >> q & 1) == 1) {
                    return steps;
                }
                for (int place = 0; place < PLACES; place++) {
                    trappedBy[place] = trapped(roads, place);
                }
                more = false;
                for (int place = 0; place < PLACES; place++) {
                    int from = caughtFrom[place] | besideOrAt(roads, place);
                    more = more || from != caughtFrom[place];
                    caughtFrom[place] = from;
                }
            }
            return q == NONE ? Integer.bitCount(caughtFrom[p]) : NONE;
        }

        private int trapped(Ways roads, int guard) {
            int set = 1 << guard;
            for (int place = 0; place < PLACES; place++) {
                int reach = roads.beside[place] | 1 << place;
                if ((reach & ~caughtFrom[guard]) == 0) {
                    set |= 1 << place;
                }
            }
            return set;
        }

        private int besideOrAt(Ways roads, int guard) {
            int set = trappedBy[guard];
            for (int place = 0; place < PLACES; place++) {
                if ((roads.beside[guard] >> place & 1) != 0) {
                    set |= trappedBy[place];
                }
            }
            return set;
        }

        /** How few words lead from x to y; ways[y] is then in how many ways. */
        private int fewestWords(int x, int y, int words) {
            Arrays.fill(few, NONE);
            few[x] = 0;
            ways[x] = 1;
            reached[0] = x;
            int count = 1;
            for (int i = 0; i < count && i < NUMBERS; i++) {
                int v = reached[i];
                int told = few[v];
                if (told >= WORDS_AT_MOST || (few[y] != NONE && told >= few[y])) {
                    break;
                }
                for (int word = 0; word < 5; word++) {
                    int to = spoken(v, word);
                    if ((words >> word & 1) == 0) {
                        continue;
                    }
                    if (few[to] == NONE) {
                        few[to] = told + 1;
                        ways[to] = 0;
                        reached[count] = to;
                        count++;
                    }
                    if (few[to] == told + 1) {
                        ways[to] += ways[v];
                    }
                }
            }
            return few[y];
        }

        private static int spoken(int v, int word) {
            switch (word) {
                case 0: return v * 2 % NUMBERS;
                case 1: return (v + 1) % NUMBERS;
                case 2: return Math.max(0, v - 3);
                case 3: return turned(v);
                default: return v / 2;
            }
        }

        private static int turned(int v) {
            int back = 0;
            for (int left = v; left > 0; left /= 10) {
                back = back * 10 + left % 10;
            }
            return back % NUMBERS;
        }

        private static int bestProphet(Told prophets, int was, int first) {
            int best = NONE;
            for (int i = 0; i < prophets.count; i++) {
                int wrong = Integer.bitCount((prophets.row(i) ^ was) & first);
                best = best == NONE ? wrong : Math.min(best, wrong);
            }
            return Math.max(0, best);
        }

        private static int fooled(Told prophets, int was, int n) {
            int all = (1 << prophets.count) - 1;
            int right = all;
            int fooled = 0;
            for (int day = 0; day < n; day++) {
                int yes = 0;
                for (int i = 0; i < prophets.count; i++) {
                    yes |= (prophets.row(i) >> day & 1) << i;
                }
                boolean believed = 2 * Integer.bitCount(yes & right) > Integer.bitCount(right);
                boolean so = (was >> day & 1) == 1;
                fooled += believed == so ? 0 : 1;
                right &= so ? yes : ~yes;
                right = right == 0 ? all : right;
            }
            return fooled;
        }

        private static boolean isWord(int digits) {
            boolean can = within(digits, 1, 9999);
            for (int left = digits; left > 0; left /= 10) {
                can = can && left % 10 != 0;
            }
            return can;
        }

        /** The fewest digits; orders is then by how many orders. */
        private int layTogether(Told words) {
            int all = 1;
            for (int i = 2; i <= words.count; i++) {
                all *= i;
            }
            int fewest = row.length + 1;
            orders = 0;
            for (int order = 0; order < all; order++) {
                int length = layInOrder(words, order);
                if (length < fewest) {
                    fewest = length;
                    orders = 0;
                }
                orders += length == fewest ? 1 : 0;
            }
            return fewest;
        }

        /** An order's number tells at each word which of those left is next. */
        private int layInOrder(Told words, int order) {
            int left = (1 << words.count) - 1;
            int length = 0;
            for (int many = words.count; many > 0; many--) {
                int skip = order % many;
                order /= many;
                int picks = left;
                for (int i = 0; i < skip; i++) {
                    picks &= picks - 1;
                }
                int pick = leastOf(picks);
                left &= ~(1 << pick);
                length = layWord(words.row(pick), length);
            }
            return length;
        }

        private int layWord(int word, int length) {
            int many = word > 999 ? 4 : word > 99 ? 3 : word > 9 ? 2 : 1;
            int left = word;
            for (int i = many - 1; i >= 0; i--) {
                digits[i] = left % 10;
                left /= 10;
            }
            for (int from = 0; from + many <= length; from++) {
                if (lies(from, many)) {
                    return length;
                }
            }
            int from = Math.max(0, length - many);
            while (from < length && !lies(from, length - from)) {
                from++;
            }
            for (int i = 0; i < many && from + i < row.length; i++) {
                row[from + i] = digits[i];
            }
            return from + many;
        }

        private boolean lies(int from, int many) {
            for (int i = 0; i < many && i < digits.length && from + i < row.length; i++) {
                if (row[from + i] != digits[i]) {
                    return false;
                }
            }
            return true;
        }

        private void serve(Told told, int servers) {
            sort(told);
            Arrays.fill(free, 0);
            through = 0;
            for (int i = 0; i < comers; i++) {
                int first = 0;
                for (int server = 1; server < servers && server < free.length; server++) {
                    first = free[server] < free[first] ? server : first;
                }
                begins[i] = Math.max(comes[i] / 100, free[first]);
                free[first] = begins[i] + comes[i] % 100;
                comes[i] /= 100;
                through = Math.max(through, free[first]);
            }
        }

        private void sort(Told told) {
            comers = 0;
            for (int i = 0; i < told.count && i < comes.length; i++) {
                int at = comers;
                while (at > 0 && comes[at - 1] / 100 > told.row(i) / 100) {
                    comes[at] = comes[at - 1];
                    at--;
                }
                comes[at] = told.row(i);
                comers++;
            }
        }

        private int waitedTogether() {
            int all = 0;
            for (int i = 0; i < comers; i++) {
                all += begins[i] - comes[i];
            }
            return all;
        }

        /** It is most at a minute at which one comes. */
        private int mostWaiting() {
            int most = 0;
            for (int i = 0; i < comers; i++) {
                int waiting = 0;
                for (int j = 0; j < comers; j++) {
                    waiting += comes[j] <= comes[i] && begins[j] > comes[i] ? 1 : 0;
                }
                most = Math.max(most, waiting);
            }
            return most;
        }

        private static boolean crosses(int sooner, int later) {
            return sooner / 100 < later / 100 && sooner % 100 > later % 100;
        }

        private static int couples(Told letters) {
            int many = 0;
            for (int i = 0; i < letters.count; i++) {
                for (int j = 0; j < letters.count; j++) {
                    many += crosses(letters.row(i), letters.row(j)) ? 1 : 0;
                }
            }
            return many;
        }

        /** As many as the longest chain of letters of which each crosses all before it: the rest fit on their roads. */
        private int fewestRoads(Told letters) {
            Arrays.fill(chains, 1);
            int longest = Math.min(1, letters.count);
            for (int turn = 0; turn < letters.count; turn++) {
                for (int i = 0; i < letters.count && i < chains.length; i++) {
                    for (int j = 0; j < letters.count && j < chains.length; j++) {
                        if (crosses(letters.row(i), letters.row(j))) {
                            chains[j] = Math.max(chains[j], chains[i] + 1);
                            longest = Math.max(longest, chains[j]);
                        }
                    }
                }
            }
            return longest;
        }

        private static int rowBehind(int row, int n) {
            int now = row;
            // A dark row stays dark.
            for (int day = 0; day < n && now != 0; day++) {
                now = nextRow(now);
            }
            return now;
        }

        private static int nextRow(int row) {
            int up = row << 1 | row >> 7;
            int down = row >> 1 | row << 7;
            return (up ^ down) & 255;
        }

        private int firstAgain(int row) {
            int now = row;
            for (int day = 0; day < rows.length; day++) {
                for (int before = 0; before < day; before++) {
                    if (rows[before] == now) {
                        return day;
                    }
                }
                rows[day] = now;
                now = nextRow(now);
            }
            return NONE;
        }

        /** The least of the Fibonacci numbers that make n, the greatest taken off first, none if n is one itself. */
        private static int firstTaken(int n) {
            int left = n;
            int greatest = 0;
            for (int i = 0; i < FIBONACCI_NUMBERS && left > 0; i++) {
                greatest = greatestFibonacci(left);
                left -= greatest;
            }
            return greatest == n ? NONE : greatest;
        }

        private static int greatestFibonacci(int most) {
            int a = 1;
            int b = 1;
            for (int i = 0; i < FIBONACCI_NUMBERS && b <= most; i++) {
                int c = a + b;
                a = b;
                b = c;
            }
            return a;
        }
    }
}
