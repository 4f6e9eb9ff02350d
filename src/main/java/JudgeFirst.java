/** A bench whose judges serve a tenth of what they give, at once: ../shared/DOC.md says what each call does. */
public final class JudgeFirst {
    public static final int BAD = -1, STATE = -2, FULL = -3, NONE = -4;

    private static final int MOST_JUDGES = 4;
    private static final int MOST_SUITS = 5;
    private static final int MOST_SEEN = 6;
    private static final int MOST_HEALTH = 20;
    private static final int MOST_PURSE = 99;
    private static final int MOST_SENTENCE = 60;
    private static final int LAST_SUIT_DAY = 20;
    private static final int FIRST_CRIME = 20;
    private static final int MOST_CRIME = 99;
    private static final int DAYS_AHEAD = 30;
    private static final int DAYS_ADRIFT = 60;
    private static final int DAYS_IN_ALL = 1000;
    private static final int MOST_BYTES = 160;
    private static final int IMAGES = 2;
    private static final int SHEETS = 4;
    private static final int LANES = 3;
    private static final int MOST_CELLS = 40;
    private static final int MOST_READ = 13;

    private static final int KINDS = 4, PLAIN = 0, YOUNG = 1, OLD = 2;
    private static final int SORTS = 4, GAOL = 0, FINE = 1, LASH = 2;
    private static final int BYTES = 0, SHORTS = 1;
    private static final int NULL = 1, INDEX = 2, CAST = 3, SIZE = 4;

    private final Court court;
    // what would be is played here, so that what is stays as it was
    private final Court trial;
    private final Image[] images;
    private final Tape tape;
    private final Docket docket;
    private final Roster roster;
    private final Clues clues;
    private final Sheet[] sheets;
    private int torn;

    public JudgeFirst() {
        court = new Court();
        trial = new Court();
        images = new Image[IMAGES];
        for (int k = 0; k < images.length; k++) {
            images[k] = new Image();
        }
        tape = new Tape();
        docket = new Docket();
        roster = new Roster();
        clues = new Clues();
        sheets = new Sheet[SHEETS];
        for (int k = 0; k < sheets.length; k++) {
            sheets[k] = new Sheet();
        }
        torn = 0;
    }

    // ---- the text

    public int feed(int c) {
        if (c < 0 || c > 127) {
            return BAD;
        }
        return tape.append(c) ? tape.length : FULL;
    }

    public int end(int n) {
        int had = tape.length;
        if (n < 0 || n > had) {
            return BAD;
        }
        tape.length = n;
        return had;
    }

    public int text() {
        int lines = tape.parse(trial);
        tape.length = 0;
        if (tape.fault != 0) {
            return -10 - tape.place;
        }
        court.copy(trial);
        dropImages();
        return lines;
    }

    public int fault() {
        return tape.fault;
    }

    public int rule(int what) {
        switch (what) {
            case 0: return court.judgeCount;
            case 1: return court.suitCount;
            case 2: return court.day;
            case 3: return court.crime;
            case 4: return court.heardBits();
            case 5: return court.awayBits();
            case 6: return court.allSentences();
            default: return BAD;
        }
    }

    public int judge(int j, int what) {
        Judge h = court.judgeAt(j);
        if (h == null) {
            return BAD;
        }
        switch (what) {
            case 0: return h.kind;
            case 1: return h.health;
            case 2: return h.purse;
            case 3: return h.away;
            case 4: return h.scars;
            case 5: return court.bitsBy(j);
            default: return BAD;
        }
    }

    public int suit(int c, int what) {
        Suit s = court.suitAt(c);
        if (s == null) {
            return BAD;
        }
        switch (what) {
            case 0: return s.sort;
            case 1: return s.least;
            case 2: return s.most;
            case 3: return s.day;
            case 4: return s.sentence;
            case 5: return s.by;
            default: return BAD;
        }
    }

    public int tenth(int j, int n) {
        Judge h = court.judgeAt(j);
        if (h == null || !within(n, 1, MOST_SENTENCE)) {
            return BAD;
        }
        return tenthBy(h.kind, n);
    }

    // ---- what is changed

    public int alter(int j, int what, int v) {
        Judge h = court.judgeAt(j);
        if (h == null) {
            return BAD;
        }
        int was;
        if (what == 0 && within(v, 0, KINDS - 1)) {
            was = h.kind;
            h.kind = v;
        } else if (what == 1 && within(v, 1, MOST_HEALTH)) {
            was = h.health;
            h.health = v;
        } else if (what == 2 && within(v, 0, MOST_PURSE)) {
            was = h.purse;
            h.purse = v;
        } else {
            return BAD;
        }
        return was;
    }

    public int amend(int c, int what, int v) {
        Suit s = court.suitAt(c);
        if (s == null || !s.admits(what, v)) {
            return BAD;
        }
        return s.isHeard() ? STATE : s.replace(what, v);
    }

    public int crime(int v) {
        if (!within(v, 0, MOST_CRIME)) {
            return BAD;
        }
        int was = court.crime;
        court.crime = v;
        return was;
    }

    // ---- sentences, days

    public int can(int c, int n) {
        Suit s = court.suitAt(c);
        if (s == null || !within(n, s.least, s.most)) {
            return BAD;
        }
        int bits = 0;
        for (int j = 0; j < court.judgeCount; j++) {
            if (court.canHear(s, court.judgeAt(j), n)) {
                bits |= 1 << j;
            }
        }
        return bits;
    }

    public int give(int c, int j, int n) {
        return sentenceAsAsked(court, c, j, n);
    }

    public int appeal(int c) {
        Suit s = court.suitAt(c);
        if (s == null) {
            return BAD;
        }
        if (!s.isHeard()) {
            return STATE;
        }
        court.undo(s);
        return court.crime;
    }

    public int days(int n) {
        if (!within(n, 0, DAYS_AHEAD)) {
            return BAD;
        }
        if (court.day + n >= DAYS_IN_ALL) {
            return FULL;
        }
        for (int d = 0; d < n; d++) {
            court.nextDay();
        }
        return court.crime;
    }

    public int docket(int n, int what) {
        if (!within(n, 0, DAYS_AHEAD) || !within(what, 0, 5)) {
            return BAD;
        }
        docket.seatAll(court);
        docket.play(trial, court, n);
        switch (what) {
            case 0: return docket.heard;
            case 1: return trial.crime;
            case 2: return trial.allPurses();
            case 3: return trial.allHealth();
            case 4: return n * court.judgeCount - Integer.bitCount(docket.heard);
            default: return docket.clearBehind;
        }
    }

    public int hears(int c, int n) {
        Suit s = court.suitAt(c);
        if (s == null || !within(n, 0, DAYS_AHEAD)) {
            return BAD;
        }
        if (s.isHeard()) {
            return NONE;
        }
        docket.seatAll(court);
        docket.play(trial, court, n);
        Suit then = trial.suitAt(c);
        return then == null ? NONE : then.by;
    }

    // ---- what is best

    public int best(int what) {
        boolean ofJudge = what >= 10 && court.judgeAt(what - 10) != null;
        if (what != 0 && what != 1 && !ofJudge) {
            return BAD;
        }
        roster.search(court);
        if (what == 0) {
            return roster.mostHeard;
        }
        return what == 1 ? roster.leastCrime : roster.suitOf(what - 10);
    }

    public int deter(int c, int v) {
        Suit s = court.suitAt(c);
        if (s == null || !within(v, 0, MOST_CRIME)) {
            return BAD;
        }
        if (s.isHeard()) {
            return STATE;
        }
        for (int n = s.least; n <= s.most; n++) {
            if (lessCrime(court.crime, n) <= v) {
                return n;
            }
        }
        return NONE;
    }

    public int order(int n, int what) {
        boolean ofPlace = within(what, 10, 10 + MOST_JUDGES - 1);
        if (!within(n, 0, DAYS_AHEAD) || what != 0 && !ofPlace) {
            return BAD;
        }
        docket.searchOrder(trial, court, n);
        if (what == 0) {
            return docket.mostHeard;
        }
        int place = what - 10;
        return place < court.judgeCount ? seatIn(docket.bestCode, court.judgeCount, place) : NONE;
    }

    public int spare(int n) {
        if (!within(n, 0, DAYS_AHEAD)) {
            return BAD;
        }
        docket.seatAll(court);
        docket.play(trial, court, n);
        int byAll = Integer.bitCount(docket.heard);
        for (int j = court.judgeCount - 1; j >= 0; j--) {
            docket.seatWithout(court, j);
            docket.play(trial, court, n);
            if (Integer.bitCount(docket.heard) == byAll) {
                return j;
            }
        }
        return NONE;
    }

    public int hopeless() {
        int bits = 0;
        for (int c = 0; c < court.suitCount; c++) {
            Suit s = court.suitAt(c);
            if (s != null && !s.isHeard() && !court.anyBears(s)) {
                bits |= 1 << c;
            }
        }
        return bits;
    }

    // ---- guilt by odds

    public long mean(int v, int what) {
        if (!within(v, 0, 10) || !within(what, 0, 1)) {
            return BAD;
        }
        int heard = court.heardBits();
        long sum = 0;
        for (int wrong = 0; wrong < 1 << MOST_SUITS; wrong++) {
            if ((wrong & ~heard) == 0) {
                sum += oddsOf(wrong, heard, v) * court.crimeWithout(wrong);
            }
        }
        return lowest(sum, oddsInAll(heard), what);
    }

    public long luck(int v, int w, int what) {
        if (!within(v, 0, 10) || !within(w, 0, MOST_CRIME) || !within(what, 0, 1)) {
            return BAD;
        }
        int heard = court.heardBits();
        long sum = 0;
        for (int wrong = 0; wrong < 1 << MOST_SUITS; wrong++) {
            if ((wrong & ~heard) == 0 && court.crimeWithout(wrong) <= w) {
                sum += oddsOf(wrong, heard, v);
            }
        }
        return lowest(sum, oddsInAll(heard), what);
    }

    // ---- by his scars

    public int see(int j, int c, int t) {
        if (court.judgeAt(j) == null || court.suitAt(c) == null || !within(t, 0, MOST_SENTENCE)) {
            return BAD;
        }
        return court.addSight(j, c, t) ? court.sightCount : FULL;
    }

    public int forget(int n) {
        int had = court.sightCount;
        if (n < 0 || n > had) {
            return BAD;
        }
        court.sightCount = n;
        return had;
    }

    public int kinds(int j) {
        return court.judgeAt(j) == null ? BAD : Clues.kindsOf(court, j);
    }

    public int terms(int c, int what) {
        Suit s = court.suitAt(c);
        if (s == null || !within(what, 0, 2)) {
            return BAD;
        }
        clues.gather(court);
        int many = 0;
        int first = NONE;
        int last = NONE;
        for (int n = s.least; n <= s.most; n++) {
            if (clues.allow(court, c, n)) {
                many++;
                first = first == NONE ? n : first;
                last = n;
            }
        }
        if (what == 0) {
            return many;
        }
        return what == 1 ? first : last;
    }

    public int ask(int j, int what) {
        if (court.judgeAt(j) == null || !within(what, 0, 1)) {
            return BAD;
        }
        int now = Clues.kindsOf(court, j);
        int fewest = Integer.bitCount(now);
        int question = NONE;
        for (int n = 1; n <= MOST_SENTENCE; n++) {
            int left = mostLeft(now, n);
            if (left < fewest) {
                fewest = left;
                question = n;
            }
        }
        return question == NONE || what == 0 ? question : fewest;
    }

    // ---- by a seed

    public int drift(int seed, int n, int what) {
        if (!within(n, 1, DAYS_ADRIFT) || !within(what, 0, 1)) {
            return BAD;
        }
        if (court.judgeCount <= 0 || court.suitCount <= 0) {
            return STATE;
        }
        trial.copy(court);
        int state = seed;
        for (int d = 0; d < n; d++) {
            state = state * 1103515245 + 12345;
            int got = state >>> 16 & 0x7fff;
            trial.sentenceToLeast(got % court.suitCount, got / 8 % court.judgeCount);
            trial.nextDay();
        }
        return what == 0 ? trial.crime : trial.heardBits();
    }

    // ---- images, sheets

    public int keep(int k) {
        Image image = imageAt(k);
        if (image == null) {
            return BAD;
        }
        int was = image.there ? 1 : 0;
        image.held.copy(court);
        image.there = true;
        return was;
    }

    public int back(int k) {
        Image image = imageAt(k);
        if (image == null) {
            return BAD;
        }
        if (!image.there) {
            return STATE;
        }
        court.copy(image.held);
        return court.day;
    }

    public int sheet(int k, int lane, int n) {
        Sheet row = sheetAt(k);
        if (row == null || !within(lane, 0, LANES - 1) || n > MOST_CELLS) {
            return BAD;
        }
        if (n < 0) {
            return -10 - SIZE;
        }
        row.begin(lane, n);
        return 1;
    }

    public int lay(int k, int i, int v) {
        Sheet row = sheetAt(k);
        if (row == null) {
            return BAD;
        }
        int refused = row.put(i, v);
        return refused == 0 ? 1 : -10 - refused;
    }

    public int read(int k, int lane, int f, int n) {
        Sheet row = sheetAt(k);
        if (row == null || !within(lane, 0, LANES - 1) || !within(n, 0, MOST_READ)) {
            return BAD;
        }
        int broken = n == 0 ? 0 : row.faultTakenAs(lane);
        int came = 0;
        trial.copy(court);
        for (int i = 0; i < n && broken == 0; i++) {
            // wide, since f may be any number
            long first = f + 3L * i;
            if (first < 0 || first + 2 >= row.size) {
                broken = INDEX;
            } else {
                int at = (int) first;
                if (sentenceAsAsked(trial, row.cell(at), row.cell(at + 1), row.cell(at + 2)) < 0) {
                    return -20 - i;
                }
                came++;
            }
        }
        court.copy(trial);
        torn = broken;
        return came;
    }

    public int torn() {
        return torn;
    }

    public int count(int what) {
        switch (what) {
            case 0: return court.sightCount;
            case 1: return imagesThere();
            case 2: return tape.length;
            case 3: return cellsOfFirst();
            case 4: return court.allPurses();
            case 5: return court.allScars();
            default: return BAD;
        }
    }

    // ---- what several calls share

    private static boolean within(int v, int low, int high) {
        return v >= low && v <= high;
    }

    private static int tenthBy(int kind, int n) {
        int plain = (n + 9) / 10;
        int old = (plain + 1) / 2;
        switch (kind) {
            case PLAIN: return plain;
            case YOUNG: return plain > 1 ? plain - 1 : 1;
            case OLD: return old;
            default: return 2 * old;
        }
    }

    private static int lessCrime(int crime, int n) {
        return Math.max(0, crime - n / 5);
    }

    private static int moreCrime(int crime, int n) {
        return Math.min(MOST_CRIME, crime + n / 5);
    }

    private static int sentenceAsAsked(Court at, int c, int j, int n) {
        Suit s = at.suitAt(c);
        if (s == null || at.judgeAt(j) == null || !within(n, s.least, s.most)) {
            return BAD;
        }
        return at.sentence(c, j, n) ? at.crime : STATE;
    }

    /** The judge on a place by an order's code: two bits a place, the first place highest, so codes go as orders do. */
    private static int seatIn(int code, int places, int place) {
        return code >> 2 * (places - 1 - place) & 3;
    }

    private static long oddsOf(int wrong, int heard, int v) {
        long odds = 1;
        for (int c = 0; c < MOST_SUITS; c++) {
            if ((heard >> c & 1) != 0) {
                odds *= (wrong >> c & 1) != 0 ? v : 10 - v;
            }
        }
        return odds;
    }

    private static long oddsInAll(int heard) {
        long odds = 1;
        for (int c = 0; c < Integer.bitCount(heard); c++) {
            odds *= 10;
        }
        return odds;
    }

    /** The numerator or the denominator, in lowest terms, of a share of a whole that is above 0. */
    private static long lowest(long share, long whole, int what) {
        long a = share;
        long b = whole;
        // of numbers this small Euclid ends within a few steps
        for (int i = 0; i < 100 && a > 0; i++) {
            long rest = b % a;
            b = a;
            a = rest;
        }
        if (b <= 0) {
            return 0;
        }
        return what == 0 ? share / b : whole / b;
    }

    /** How many of some kinds are left at the worst when a tenth of n is told. */
    private static int mostLeft(int kinds, int n) {
        int most = 0;
        for (int a = 0; a < KINDS; a++) {
            int alike = 0;
            for (int b = 0; b < KINDS; b++) {
                if ((kinds >> a & kinds >> b & 1) != 0 && tenthBy(a, n) == tenthBy(b, n)) {
                    alike++;
                }
            }
            most = Math.max(most, alike);
        }
        return most;
    }

    private Image imageAt(int k) {
        return k >= 0 && k < images.length ? images[k] : null;
    }

    private Sheet sheetAt(int k) {
        return k >= 0 && k < sheets.length ? sheets[k] : null;
    }

    private void dropImages() {
        for (int k = 0; k < IMAGES; k++) {
            Image image = imageAt(k);
            if (image != null) {
                image.there = false;
            }
        }
    }

    private int imagesThere() {
        int many = 0;
        for (int k = 0; k < IMAGES; k++) {
            Image image = imageAt(k);
            if (image != null && image.there) {
                many++;
            }
        }
        return many;
    }

    private int cellsOfFirst() {
        Sheet first = sheetAt(0);
        return first == null || !first.there ? NONE : first.size;
    }

    private static final class Judge {
        int kind;
        int health;
        int purse;
        int away;
        int scars;

        void begin(int itsKind, int itsHealth, int itsPurse) {
            kind = itsKind;
            health = itsHealth;
            purse = itsPurse;
            away = 0;
            scars = 0;
        }

        void copy(Judge from) {
            kind = from.kind;
            health = from.health;
            purse = from.purse;
            away = from.away;
            scars = from.scars;
        }

        boolean bears(int sort, int t) {
            if (sort == FINE) {
                return purse >= t;
            }
            return sort != LASH || health > t;
        }

        void serve(int sort, int t, int day) {
            switch (sort) {
                case GAOL:
                    away = day + t;
                    break;
                case FINE:
                    purse -= t;
                    break;
                case LASH:
                    health -= t;
                    scars += t;
                    break;
                default:
                    away = day + 1;
                    scars += 1;
                    break;
            }
        }

        void regain(int sort, int t, int day) {
            switch (sort) {
                case GAOL:
                    away = Math.min(away, day);
                    break;
                case FINE:
                    purse = Math.min(MOST_PURSE, purse + t);
                    break;
                case LASH:
                    health = Math.min(MOST_HEALTH, health + t);
                    scars -= t;
                    break;
                default:
                    away = Math.min(away, day);
                    scars -= 1;
                    break;
            }
        }
    }

    private static final class Suit {
        int sort;
        int least;
        int most;
        int day;
        int sentence;
        int by;
        // what its judge had of it: his kind may be another by the time of an appeal
        int had;

        void begin(int itsSort, int itsLeast, int itsMost, int itsDay) {
            sort = itsSort;
            least = itsLeast;
            most = itsMost;
            day = itsDay;
            close(0, NONE, 0);
        }

        void close(int n, int judge, int t) {
            sentence = n;
            by = judge;
            had = t;
        }

        void copy(Suit from) {
            sort = from.sort;
            least = from.least;
            most = from.most;
            day = from.day;
            close(from.sentence, from.by, from.had);
        }

        boolean isHeard() {
            return sentence > 0;
        }

        boolean admits(int what, int v) {
            switch (what) {
                case 0: return within(v, 0, SORTS - 1);
                case 1: return within(v, 1, most);
                case 2: return within(v, least, MOST_SENTENCE);
                case 3: return within(v, 0, LAST_SUIT_DAY);
                default: return false;
            }
        }

        int replace(int what, int v) {
            int was;
            switch (what) {
                case 0:
                    was = sort;
                    sort = v;
                    break;
                case 1:
                    was = least;
                    least = v;
                    break;
                case 2:
                    was = most;
                    most = v;
                    break;
                default:
                    was = day;
                    day = v;
                    break;
            }
            return was;
        }
    }

    private static final class Sight {
        int judge;
        int suit;
        int tenth;

        void begin(int itsJudge, int itsSuit, int itsTenth) {
            judge = itsJudge;
            suit = itsSuit;
            tenth = itsTenth;
        }
    }

    /** All that an image holds. */
    private static final class Court {
        final Judge[] judges;
        final Suit[] suits;
        final Sight[] sights;
        int judgeCount;
        int suitCount;
        int sightCount;
        int day;
        int crime;

        Court() {
            judges = new Judge[MOST_JUDGES];
            for (int j = 0; j < judges.length; j++) {
                judges[j] = new Judge();
            }
            suits = new Suit[MOST_SUITS];
            for (int c = 0; c < suits.length; c++) {
                suits[c] = new Suit();
            }
            sights = new Sight[MOST_SEEN];
            for (int i = 0; i < sights.length; i++) {
                sights[i] = new Sight();
            }
            begin();
        }

        void begin() {
            judgeCount = 0;
            suitCount = 0;
            sightCount = 0;
            day = 0;
            crime = FIRST_CRIME;
        }

        void copy(Court from) {
            day = from.day;
            crime = from.crime;
            judgeCount = from.judgeCount;
            for (int j = 0; j < judgeCount; j++) {
                copyJudge(judgeAt(j), from.judgeAt(j));
            }
            suitCount = from.suitCount;
            for (int c = 0; c < suitCount; c++) {
                copySuit(suitAt(c), from.suitAt(c));
            }
            sightCount = from.sightCount;
            for (int i = 0; i < sightCount; i++) {
                copySight(sightAt(i), from.sightAt(i));
            }
        }

        private static void copyJudge(Judge to, Judge from) {
            if (to != null && from != null) {
                to.copy(from);
            }
        }

        private static void copySuit(Suit to, Suit from) {
            if (to != null && from != null) {
                to.copy(from);
            }
        }

        private static void copySight(Sight to, Sight from) {
            if (to != null && from != null) {
                to.begin(from.judge, from.suit, from.tenth);
            }
        }

        Judge judgeAt(int j) {
            return j >= 0 && j < judgeCount && j < judges.length ? judges[j] : null;
        }

        Suit suitAt(int c) {
            return c >= 0 && c < suitCount && c < suits.length ? suits[c] : null;
        }

        Sight sightAt(int i) {
            return i >= 0 && i < sightCount && i < sights.length ? sights[i] : null;
        }

        boolean addJudge() {
            if (judgeCount >= judges.length) {
                return false;
            }
            judgeCount++;
            return true;
        }

        boolean addSuit() {
            if (suitCount >= suits.length) {
                return false;
            }
            suitCount++;
            return true;
        }

        boolean addSight(int j, int c, int t) {
            if (sightCount >= sights.length) {
                return false;
            }
            sightCount++;
            Sight seen = sightAt(sightCount - 1);
            if (seen != null) {
                seen.begin(j, c, t);
            }
            return true;
        }

        boolean canHear(Suit s, Judge h, int n) {
            return s != null && h != null && !s.isHeard() && s.day <= day && h.away <= day
                    && h.bears(s.sort, tenthBy(h.kind, n));
        }

        boolean anyBears(Suit s) {
            for (int j = 0; j < judgeCount; j++) {
                Judge h = judgeAt(j);
                if (h != null && h.bears(s.sort, tenthBy(h.kind, s.least))) {
                    return true;
                }
            }
            return false;
        }

        boolean sentence(int c, int j, int n) {
            Suit s = suitAt(c);
            Judge h = judgeAt(j);
            if (s == null || h == null || !canHear(s, h, n)) {
                return false;
            }
            int t = tenthBy(h.kind, n);
            h.serve(s.sort, t, day);
            s.close(n, j, t);
            crime = lessCrime(crime, n);
            return true;
        }

        boolean sentenceToLeast(int c, int j) {
            Suit s = suitAt(c);
            return s != null && sentence(c, j, s.least);
        }

        void undo(Suit s) {
            Judge h = judgeAt(s.by);
            if (h != null) {
                h.regain(s.sort, s.had, day);
            }
            crime = moreCrime(crime, s.sentence);
            s.close(0, NONE, 0);
        }

        /** The crime there would be if some of the cases (bits) were appealed. */
        int crimeWithout(int bits) {
            int then = crime;
            for (int c = 0; c < suitCount; c++) {
                Suit s = suitAt(c);
                if (s != null && (bits >> c & 1) != 0) {
                    then = moreCrime(then, s.sentence);
                }
            }
            return then;
        }

        void nextDay() {
            day++;
            int waiting = 0;
            for (int c = 0; c < suitCount; c++) {
                Suit s = suitAt(c);
                if (s != null && !s.isHeard() && s.day <= day) {
                    waiting++;
                }
            }
            crime = Math.min(MOST_CRIME, crime + waiting);
        }

        int heardBits() {
            int bits = 0;
            for (int c = 0; c < suitCount; c++) {
                Suit s = suitAt(c);
                if (s != null && s.isHeard()) {
                    bits |= 1 << c;
                }
            }
            return bits;
        }

        int bitsBy(int j) {
            int bits = 0;
            for (int c = 0; c < suitCount; c++) {
                Suit s = suitAt(c);
                if (s != null && s.by == j) {
                    bits |= 1 << c;
                }
            }
            return bits;
        }

        int awayBits() {
            int bits = 0;
            for (int j = 0; j < judgeCount; j++) {
                Judge h = judgeAt(j);
                if (h != null && h.away > day) {
                    bits |= 1 << j;
                }
            }
            return bits;
        }

        boolean isClear() {
            return awayBits() == 0 && Integer.bitCount(heardBits()) == suitCount;
        }

        int allSentences() {
            int sum = 0;
            for (int c = 0; c < suitCount; c++) {
                Suit s = suitAt(c);
                sum += s == null ? 0 : s.sentence;
            }
            return sum;
        }

        int allPurses() {
            int sum = 0;
            for (int j = 0; j < judgeCount; j++) {
                Judge h = judgeAt(j);
                sum += h == null ? 0 : h.purse;
            }
            return sum;
        }

        int allHealth() {
            int sum = 0;
            for (int j = 0; j < judgeCount; j++) {
                Judge h = judgeAt(j);
                sum += h == null ? 0 : h.health;
            }
            return sum;
        }

        int allScars() {
            int sum = 0;
            for (int j = 0; j < judgeCount; j++) {
                Judge h = judgeAt(j);
                sum += h == null ? 0 : h.scars;
            }
            return sum;
        }
    }

    private static final class Image {
        final Court held;
        boolean there;

        Image() {
            held = new Court();
            there = false;
        }
    }

    /** The text: its bytes, and the reading of it, a token at a time. */
    private static final class Tape {
        private static final int END = 0, NAME = 1, NUMBER = 2, SIGN = 3, BROKEN = 4;
        private static final int NO_TOKEN = 1, MISPLACED = 2, OUT_OF_BOUNDS = 3, AGAIN = 4, TOO_MANY = 5;
        private static final int WORDS = 9, CRIME_WORD = 8;

        final byte[] bytes;
        int length;
        int fault;
        int place;
        private int token;
        private int start;
        private int next;
        private int value;
        private boolean crimeTold;

        Tape() {
            bytes = new byte[MOST_BYTES];
            length = 0;
            fault = 0;
            place = 0;
        }

        boolean append(int c) {
            if (length < 0 || length >= bytes.length) {
                return false;
            }
            bytes[length] = (byte) c;
            length++;
            return true;
        }

        /** How many lines were told, if there is no fault. */
        int parse(Court told) {
            told.begin();
            fault = 0;
            place = 0;
            next = 0;
            crimeTold = false;
            int lines = 0;
            take();
            // a line has two bytes at the least
            while (fault == 0 && token != END && lines < MOST_BYTES) {
                line(told);
                lines++;
                take();
            }
            return lines;
        }

        private void line(Court told) {
            int word = token == NAME ? wordThere() : WORDS;
            if (word < KINDS) {
                lineOfJudge(told, word);
            } else if (word < CRIME_WORD) {
                lineOfSuit(told, word - KINDS);
            } else if (word == CRIME_WORD) {
                lineOfCrime(told);
            } else {
                fail(MISPLACED);
            }
            take();
            if (token != SIGN) {
                fail(MISPLACED);
            }
        }

        private void lineOfJudge(Court told, int kind) {
            if (!told.addJudge()) {
                fail(TOO_MANY);
            }
            int health = number(1, MOST_HEALTH);
            int purse = number(0, MOST_PURSE);
            Judge h = told.judgeAt(told.judgeCount - 1);
            if (h != null) {
                h.begin(kind, health, purse);
            }
        }

        private void lineOfSuit(Court told, int sort) {
            if (!told.addSuit()) {
                fail(TOO_MANY);
            }
            int least = number(1, MOST_SENTENCE);
            int most = number(least, MOST_SENTENCE);
            int day = number(0, LAST_SUIT_DAY);
            Suit s = told.suitAt(told.suitCount - 1);
            if (s != null) {
                s.begin(sort, least, most, day);
            }
        }

        private void lineOfCrime(Court told) {
            if (crimeTold) {
                fail(AGAIN);
            }
            crimeTold = true;
            told.crime = number(0, MOST_CRIME);
        }

        private int number(int low, int high) {
            take();
            if (token != NUMBER) {
                fail(MISPLACED);
            } else if (!within(value, low, high)) {
                fail(OUT_OF_BOUNDS);
            }
            return value;
        }

        /** The first fault that is met stands, and nothing is read behind it. */
        private void fail(int how) {
            if (fault == 0) {
                fault = how;
                place = start;
            }
        }

        private void take() {
            if (fault != 0) {
                return;
            }
            next = behind(next, 32, 32);
            start = next;
            int c = byteAt(start);
            if (c < 0) {
                token = END;
            } else if (c >= 'a' && c <= 'z') {
                token = NAME;
                next = behind(start, 'a', 'z');
            } else if (c >= '0' && c <= '9') {
                next = behind(start, '0', '9');
                token = next - start > 2 ? BROKEN : NUMBER;
                value = token == NUMBER ? valueThere() : 0;
            } else if (c == ';') {
                token = SIGN;
                next = start + 1;
            } else {
                token = BROKEN;
            }
            if (token == BROKEN) {
                fail(NO_TOKEN);
            }
        }

        private int valueThere() {
            int sum = 0;
            for (int i = start; i < next; i++) {
                sum = sum * 10 + byteAt(i) - '0';
            }
            return sum;
        }

        /** The place behind the bytes from low to high that stand from a place on. */
        private int behind(int from, int low, int high) {
            int i = from;
            while (i < length && within(byteAt(i), low, high)) {
                i++;
            }
            return i;
        }

        private int byteAt(int i) {
            return i >= 0 && i < length && i < bytes.length ? bytes[i] : -1;
        }

        private int wordThere() {
            for (int word = 0; word < WORDS; word++) {
                if (spells(wordOf(word))) {
                    return word;
                }
            }
            return WORDS;
        }

        private boolean spells(String word) {
            if (next - start != word.length()) {
                return false;
            }
            for (int i = 0; i < word.length(); i++) {
                if (byteAt(start + i) != word.charAt(i)) {
                    return false;
                }
            }
            return true;
        }

        /** The words that begin lines: kinds by their numbers, then sorts by theirs, then crime. */
        private static String wordOf(int word) {
            switch (word) {
                case 0: return "plain";
                case 1: return "young";
                case 2: return "old";
                case 3: return "hermit";
                case 4: return "gaol";
                case 5: return "fine";
                case 6: return "lash";
                case 7: return "stocks";
                default: return "crime";
            }
        }
    }

    /** A docket played on a court lent for it (at), by those who are seated, as they are seated. */
    private static final class Docket {
        final int[] seats;
        int seated;
        int heard;
        int clearBehind;
        int mostHeard;
        int bestCode;

        Docket() {
            seats = new int[MOST_JUDGES];
            seated = 0;
        }

        void seatAll(Court from) {
            seatWithout(from, NONE);
        }

        void seatWithout(Court from, int missing) {
            seated = 0;
            for (int j = 0; j < from.judgeCount; j++) {
                if (j != missing) {
                    seat(j);
                }
            }
        }

        /** Whether the code is an order of all judges: else they are not all seated. */
        private boolean seatBy(int code, int many) {
            seated = 0;
            int there = 0;
            for (int i = 0; i < many; i++) {
                int j = seatIn(code, many, i);
                if (j < many && (there >> j & 1) == 0) {
                    seat(j);
                }
                there |= 1 << j;
            }
            return seated == many;
        }

        private void seat(int j) {
            if (seated >= 0 && seated < seats.length) {
                seats[seated] = j;
                seated++;
            }
        }

        void searchOrder(Court at, Court from, int n) {
            int many = from.judgeCount;
            int unheard = from.suitCount - Integer.bitCount(from.heardBits());
            mostHeard = NONE;
            bestCode = 0;
            for (int code = 0; code < 1 << 2 * many && mostHeard < unheard; code++) {
                if (seatBy(code, many)) {
                    play(at, from, n);
                    int now = Integer.bitCount(heard);
                    if (now > mostHeard) {
                        mostHeard = now;
                        bestCode = code;
                    }
                }
            }
        }

        void play(Court at, Court from, int n) {
            at.copy(from);
            clearBehind = at.isClear() ? 0 : NONE;
            for (int d = 1; d <= n; d++) {
                for (int i = 0; i < seated && i < seats.length; i++) {
                    hearFirst(at, seats[i]);
                }
                at.nextDay();
                if (clearBehind == NONE && at.isClear()) {
                    clearBehind = d;
                }
            }
            heard = at.heardBits() & ~from.heardBits();
        }

        private static void hearFirst(Court at, int j) {
            boolean free = true;
            for (int c = 0; c < at.suitCount && free; c++) {
                free = !at.sentenceToLeast(c, j);
            }
        }
    }

    /** Which case each judge is to hear today. */
    private static final class Roster {
        final int[] picks;
        final int[] bestPicks;
        int mostHeard;
        int leastCrime;

        Roster() {
            picks = new int[MOST_JUDGES];
            bestPicks = new int[MOST_JUDGES];
        }

        void search(Court from) {
            mostHeard = NONE;
            leastCrime = from.crime;
            choose(this, from, 0, 0, from.crime);
        }

        int suitOf(int j) {
            return j >= 0 && j < bestPicks.length ? bestPicks[j] : NONE;
        }

        /** All rosters by order, so that of equal ones the first is met first. */
        private static void choose(Roster at, Court from, int j, int taken, int crime) {
            Judge h = from.judgeAt(j);
            if (h == null || j < 0 || j >= at.picks.length) {
                at.weigh(Integer.bitCount(taken), crime);
                return;
            }
            for (int c = 0; c < from.suitCount; c++) {
                Suit s = from.suitAt(c);
                if (s != null && (taken >> c & 1) == 0 && from.canHear(s, h, s.least)) {
                    at.picks[j] = c;
                    choose(at, from, j + 1, taken | 1 << c, lessCrime(crime, s.least));
                }
            }
            at.picks[j] = NONE;
            choose(at, from, j + 1, taken, crime);
        }

        private void weigh(int heard, int crime) {
            if (heard > mostHeard || heard == mostHeard && crime < leastCrime) {
                mostHeard = heard;
                leastCrime = crime;
                for (int j = 0; j < picks.length && j < bestPicks.length; j++) {
                    bestPicks[j] = picks[j];
                }
            }
        }
    }

    /** What is told by all that is seen. */
    private static final class Clues {
        // the kinds of each judge, so that they are not told anew for each sentence of a case
        final int[] gathered;

        Clues() {
            gathered = new int[MOST_JUDGES];
        }

        void gather(Court court) {
            for (int j = 0; j < gathered.length; j++) {
                gathered[j] = kindsOf(court, j);
            }
        }

        static int kindsOf(Court court, int j) {
            int bits = 0;
            for (int kind = 0; kind < KINDS; kind++) {
                if (couldBe(court, j, kind)) {
                    bits |= 1 << kind;
                }
            }
            return bits;
        }

        private static boolean couldBe(Court court, int j, int kind) {
            for (int i = 0; i < court.sightCount; i++) {
                Sight seen = court.sightAt(i);
                if (seen != null && seen.judge == j && !someTenth(court, seen, kind)) {
                    return false;
                }
            }
            return true;
        }

        private static boolean someTenth(Court court, Sight seen, int kind) {
            Suit s = court.suitAt(seen.suit);
            if (s == null) {
                return false;
            }
            for (int n = s.least; n <= s.most; n++) {
                if (tenthBy(kind, n) == seen.tenth) {
                    return true;
                }
            }
            return false;
        }

        /** Whether a case may have been given n, by all that is seen of it and the kinds that are gathered. */
        boolean allow(Court court, int c, int n) {
            for (int j = 0; j < court.judgeCount && j < gathered.length; j++) {
                if (isSeen(court, j, c) && !someKind(court, gathered[j], j, c, n)) {
                    return false;
                }
            }
            return true;
        }

        private static boolean isSeen(Court court, int j, int c) {
            for (int i = 0; i < court.sightCount; i++) {
                Sight seen = court.sightAt(i);
                if (seen != null && seen.judge == j && seen.suit == c) {
                    return true;
                }
            }
            return false;
        }

        private static boolean someKind(Court court, int kinds, int j, int c, int n) {
            for (int kind = 0; kind < KINDS; kind++) {
                if ((kinds >> kind & 1) != 0 && agrees(court, j, c, tenthBy(kind, n))) {
                    return true;
                }
            }
            return false;
        }

        private static boolean agrees(Court court, int j, int c, int t) {
            for (int i = 0; i < court.sightCount; i++) {
                Sight seen = court.sightAt(i);
                if (seen != null && seen.judge == j && seen.suit == c && seen.tenth != t) {
                    return false;
                }
            }
            return true;
        }
    }

    private static final class Sheet {
        final int[] cells;
        boolean there;
        int lane;
        int size;

        Sheet() {
            cells = new int[MOST_CELLS];
            there = false;
        }

        void begin(int itsLane, int n) {
            there = true;
            lane = itsLane;
            size = n;
            for (int i = 0; i < cells.length; i++) {
                cells[i] = 0;
            }
        }

        int put(int i, int v) {
            if (!there) {
                return NULL;
            }
            if (i < 0 || i >= size || i >= cells.length) {
                return INDEX;
            }
            cells[i] = lane == BYTES ? (byte) v : lane == SHORTS ? (short) v : v;
            return 0;
        }

        int cell(int i) {
            return i >= 0 && i < size && i < cells.length ? cells[i] : 0;
        }

        int faultTakenAs(int itsLane) {
            if (!there) {
                return NULL;
            }
            return lane == itsLane ? 0 : CAST;
        }
    }
}
