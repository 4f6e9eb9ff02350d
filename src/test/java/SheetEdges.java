import java.util.Arrays;

/** The bounds that the document names for images, sheets and what is counted: promises 32 to 38. */
public final class SheetEdges extends Tests {
    private static final int NULL = 1, INDEX = 2, CAST = 3;
    private static final String TEXT = "plain 20 99;old 20 99;fine 1 60 0;lash 1 60 0;fine 1 60 0;stocks 1 60 0;"
        + "gaol 20 40 0;crime 90;";

    private static Bench busy() {
        return Bench.told(TEXT).then(x -> x.see(0, 0, 1)).then(x -> x.see(1, 4, 2)).then(x -> x.days(3))
            .then(x -> x.give(1, 0, 33)).then(x -> x.give(4, 1, 40));
    }

    // ---- promise 32: "IMAGE k (0, 1) is JUDGES, CASES, DAY, CRIME, what was SEEN: whether there was one (1, 0). BAD."

    public void p32WhetherThereWasOne() {
        for (int i = 0; i <= 1; i++) {
            int k = i;
            busy().answers(0, x -> x.keep(k));
            busy().then(0, x -> x.keep(k)).answers(1, x -> x.keep(k));
            busy().then(0, x -> x.keep(k)).answers(0, x -> x.keep(1 - k));
            busy().then(0, x -> x.keep(k)).answers(1, x -> x.count(1));
            busy().then(0, x -> x.keep(k)).then(0, x -> x.keep(1 - k)).answers(2, x -> x.count(1));
        }
        Bench.nobody().answers(0, x -> x.keep(0));
    }

    public void p32GoneByAText() {
        busy().then(x -> x.keep(0)).then(x -> x.keep(1)).fed("old 1 1;").then(JudgeFirst::text).answers(0, x -> x.keep(1));
        busy().then(x -> x.keep(0)).fed("old 1 1;").then(JudgeFirst::text).answers(0, x -> x.count(1));
        // not by a FAULT
        busy().then(x -> x.keep(0)).fed("old 0 1;").then(-14, JudgeFirst::text).answers(1, x -> x.keep(0));
    }

    public void p32WrongNumbers() {
        for (int k : beyond(0, 1)) {
            busy().asks(BAD, x -> x.keep(k));
            busy().then(x -> x.keep(0)).then(x -> x.keep(1)).asks(BAD, x -> x.keep(k));
        }
    }

    public void p32LeavesAllElse() {
        JudgeFirst x = busy().set();
        x.keep(0);
        x.back(0);
        Trace.alike(busy().then(y -> y.keep(0)).set(), x);
    }

    // ---- promise 33: "All is as IMAGE k: DAY. BAD; STATE: there is none."

    private static void change(JudgeFirst x) {
        due(82, x.give(0, 0, 44));
        due(88, x.appeal(1));
        x.appeal(4);
        for (int j = 0; j <= 1; j++) {
            x.alter(j, 0, 3);
            x.alter(j, 1, 5);
            x.alter(j, 2, 6);
        }
        for (int what = 0; what <= 3; what++) {
            x.amend(2, what, new int[] {3, 50, 55, 9}[what]);
        }
        x.days(9);
        x.crime(1);
        x.forget(0);
        x.see(1, 0, 60);
        x.see(0, 3, 0);
        x.see(1, 1, 2);
    }

    public void p33AllIsAsTheImage() {
        for (int i = 0; i <= 1; i++) {
            int k = i;
            Bench kept = busy().then(x -> x.crime(90)).then(x -> x.keep(k));
            JudgeFirst x = kept.set();
            change(x);
            due(3, x.back(k));
            Trace.alike(kept.set(), x);
        }
    }

    public void p33TheImageStaysAsItIs() {
        Bench kept = busy().then(x -> x.crime(90)).then(x -> x.keep(0));
        JudgeFirst x = kept.set();
        change(x);
        due(3, x.back(0));
        change(x);
        due(3, x.back(0));
        Trace.alike(kept.set(), x);
    }

    public void p33EachImageIsItsOwn() {
        Bench kept = busy().then(x -> x.crime(90)).then(x -> x.keep(0));
        JudgeFirst x = kept.set();
        change(x);
        due(0, x.keep(1));
        due(3, x.back(0));
        due(12, x.back(1));
        due(1, x.rule(3));
        due(3, x.judge(1, 0));
        due(3, x.count(0));
        due(3, x.back(0));
        due(0, x.judge(0, 0));
        due(2, x.count(0));
    }

    public void p33KeptAnew() {
        Bench kept = busy().then(x -> x.keep(0)).then(x -> x.days(4)).then(1, x -> x.keep(0)).then(x -> x.days(5));
        kept.answers(7, x -> x.back(0));
    }

    public void p33AsItWasAtTheSentencing() {
        JudgeFirst x = busy().then(y -> y.keep(0)).set();
        x.appeal(1);
        x.back(0);
        x.alter(0, 0, 2);
        // the lash was of 33 by a plain one: 4
        due(16, x.judge(0, 1));
        x.appeal(1);
        due(20, x.judge(0, 1));
        due(0, x.judge(0, 4));
    }

    public void p33TapeSheetsAndFaultsStay() {
        Bench kept = busy().laid(0, 1, 0, 0, 5).fed("?").then(-10, JudgeFirst::text).then(x -> x.keep(0));
        JudgeFirst x = kept.laid(0, 2, 0, 0, 9, 1, 0, 3).fed("crime 5;").then(0, y -> y.read(1, 0, 0, 1))
            .then(y -> y.days(3)).set();
        due(3, x.back(0));
        due(6, x.count(3));
        due(8, x.count(2));
        due(1, x.fault());
        due(NULL, x.torn());
        due(1, x.read(0, 2, 0, 1));
        due(9, x.suit(0, 4));
    }

    public void p33Nobody() {
        Bench.nobody().then(x -> x.keep(1)).then(x -> x.days(30)).answers(0, x -> x.back(1));
        Bench.nobody().then(x -> x.keep(1)).then(x -> x.days(30)).then(x -> x.back(1)).answers(0, x -> x.rule(2));
    }

    public void p33Refused() {
        for (int k : beyond(0, 1)) {
            busy().asks(BAD, x -> x.back(k));
            busy().then(x -> x.keep(0)).then(x -> x.keep(1)).asks(BAD, x -> x.back(k));
        }
        busy().asks(STATE, x -> x.back(0));
        busy().asks(STATE, x -> x.back(1));
        busy().then(x -> x.keep(0)).asks(STATE, x -> x.back(1));
        busy().then(x -> x.keep(1)).asks(STATE, x -> x.back(0));
        busy().then(x -> x.keep(1)).then(x -> x.text()).asks(STATE, x -> x.back(1));
    }

    // ---- promise 34: "A SHEET is a new row of CELLS 0: 1. BAD: also n above 40; -14 (SIZE): n below 0."

    public void p34SizesAndLanes() {
        for (int i = 0; i < 12; i++) {
            int k = i / 3;
            int lane = i % 3;
            for (int n : new int[] {0, 1, 39, 40}) {
                JudgeFirst x = busy().then(1, y -> y.sheet(k, lane, n)).set();
                due(-12, x.lay(k, n, 0));
                due(-12, x.lay(k, -1, 0));
                due(n > 0 ? 1 : -12, x.lay(k, n - 1, 0));
                due(k == 0 ? n : NONE, x.count(3));
                due(0, x.read(k, lane, n, 1));
                due(INDEX, x.torn());
                due(0, x.read(k, (lane + 1) % 3, n, 1));
                due(CAST, x.torn());
            }
        }
    }

    private static Bench laid() {
        return busy().laid(1, 1, 0, 0, 7, 2, 0, 9);
    }

    public void p34Refused() {
        for (int k : beyond(0, 3)) {
            laid().asks(BAD, x -> x.sheet(k, 0, 5));
            // BAD ahead of SIZE
            laid().asks(BAD, x -> x.sheet(k, 0, -1));
        }
        for (int lane : beyond(0, 2)) {
            laid().asks(BAD, x -> x.sheet(1, lane, 5));
            laid().asks(BAD, x -> x.sheet(1, lane, -1));
        }
        for (int n : new int[] {41, 42, 256, 65536, HIGH}) {
            laid().asks(BAD, x -> x.sheet(1, 1, n));
            laid().asks(BAD, x -> x.sheet(0, 1, n));
        }
        for (int n : new int[] {-1, -2, -40, LOW}) {
            laid().asks(-14, x -> x.sheet(1, 1, n));
            laid().asks(-14, x -> x.sheet(0, 1, n));
        }
    }

    public void p34ANewRowOfZeros() {
        for (int i = 0; i <= 2; i++) {
            int lane = i;
            JudgeFirst x = busy().laid(1, 1, 4, 1, 7, 2, 1, 9).then(1, y -> y.sheet(1, lane, 6)).set();
            // 0, 0, 0: no SENTENCE of 0; then case 0, judge 0
            due(-20, x.read(1, lane, 0, 1));
            due(1, x.lay(1, 2, 6));
            due(1, x.lay(1, 5, 6));
            due(1, x.read(1, lane, 0, 1));
            due(6, x.suit(0, 4));
            due(0, x.suit(0, 5));
            due(-20, x.read(1, lane, 3, 1));
            x.appeal(0);
            due(1, x.read(1, lane, 3, 1));
        }
    }

    public void p34ALaterSizeTells() {
        Bench x = busy().then(y -> y.sheet(0, 2, 40)).then(y -> y.sheet(0, 2, 3));
        x.answers(3, y -> y.count(3));
        x.answers(-12, y -> y.lay(0, 3, 1));
        x.then(y -> y.sheet(0, 0, 0)).answers(0, y -> y.count(3));
        x.then(y -> y.sheet(0, 0, 0)).answers(-12, y -> y.lay(0, 0, 1));
    }

    // ---- promise 35: "CELL i of a SHEET becomes v (its lowest bits): 1. BAD: k; -10 less the FAULT: NULL, INDEX."

    public void p35Bounds() {
        for (int k : beyond(0, 3)) {
            laid().asks(BAD, x -> x.lay(k, 0, 7));
            // BAD ahead of a FAULT
            laid().asks(BAD, x -> x.lay(k, -1, 7));
        }
        for (int i : beyond(0, 5)) {
            laid().asks(-12, x -> x.lay(1, i, 7));
            for (int k : new int[] {0, 2, 3}) {
                laid().asks(-11, x -> x.lay(k, i, 7));
            }
        }
        for (int i = 0; i <= 5; i++) {
            int cell = i;
            laid().answers(1, x -> x.lay(1, cell, 7));
        }
        // beyond its own cells, though others have so many
        for (int i = 6; i <= 41; i++) {
            int cell = i;
            laid().asks(-12, x -> x.lay(1, cell, 7));
        }
        Bench full = busy().then(x -> x.sheet(3, 0, 40));
        full.answers(1, x -> x.lay(3, 39, 7));
        full.asks(-12, x -> x.lay(3, 40, 7));
        Bench empty = busy().then(x -> x.sheet(3, 0, 0));
        empty.asks(-12, x -> x.lay(3, 0, 7));
    }

    public void p35OneCellAlone() {
        JudgeFirst x = laid().then(1, y -> y.lay(1, 2, 8)).set();
        due(2, x.read(1, 1, 0, 2));
        due(8, x.suit(0, 4));
        due(9, x.suit(2, 4));
        due(0, x.suit(2, 5));
    }

    // "rows of BYTES (lane 0), SHORTS (1), INTS (2), all with a sign"; "(its lowest bits)"

    public void p35LowestBitsAlone() {
        int[] size = {256, 65536};
        for (int i = 0; i <= 1; i++) {
            int lane = i;
            for (int times : new int[] {1, -1, 3, 32767 / (lane == 0 ? 1 : 256), -5}) {
                int v = size[lane] * times + 7;
                Bench x = busy().laid(2, lane, size[lane] * times, -size[lane] * times, v);
                x.answers(1, y -> y.read(2, lane, 0, 1));
                x.then(1, y -> y.read(2, lane, 0, 1)).answers(7, y -> y.suit(0, 4));
                Bench ints = busy().laid(2, 2, 0, 0, v);
                ints.asks(-20, y -> y.read(2, 2, 0, 1));
            }
        }
        // LOW has no bits below the highest
        for (int lane : new int[] {0, 1}) {
            busy().laid(2, lane, LOW, LOW, LOW + 7).answers(1, y -> y.read(2, lane, 0, 1));
        }
        busy().laid(2, 2, LOW, 0, 7).asks(-20, y -> y.read(2, 2, 0, 1));
        busy().laid(2, 2, 0, LOW, 7).asks(-20, y -> y.read(2, 2, 0, 1));
    }

    public void p35BitsThatStay() {
        // 128 + 7 is below 0 in a byte, 256 + 7 too much in a short, 65536 + 7 in an int
        for (int[] cell : new int[][] {{0, 128 + 7}, {0, 64}, {0, -7}, {0, 255}, {1, 256 + 7}, {1, 32768 + 7}, {1, -249},
            {1, 65535}, {2, 65536 + 7}, {2, 256 + 7}, {2, -7}, {2, HIGH}}) {
            busy().laid(2, cell[0], 0, 0, cell[1]).asks(-20, y -> y.read(2, cell[0], 0, 1));
        }
        for (int lane = 0; lane <= 2; lane++) {
            int of = lane;
            for (int n : new int[] {1, 60}) {
                busy().laid(2, lane, 0, 0, n).then(1, y -> y.read(2, of, 0, 1)).answers(n, y -> y.suit(0, 4));
            }
        }
    }

    // ---- promise 36: "n (0 to 13) times a CASE, a JUDGE, how much are read of a SHEET taken as of a lane, three CELLS
    // each from CELL f on, one behind another as by give(): how many came."

    private static final int[] FIVE = {0, 0, 10, 1, 1, 20, 2, 0, 30, 3, 1, 5, 4, 0, 25};

    private static int[] first(int[] cells, int many) {
        return Arrays.copyOf(cells, many);
    }

    private static Bench sheet(int... cells) {
        return Bench.told(TEXT).then(x -> x.see(0, 0, 1)).laid(1, 1, cells);
    }

    public void p36AllCome() {
        JudgeFirst x = sheet(FIVE).set();
        due(5, x.read(1, 1, 0, 5));
        due(0, x.torn());
        due(31, x.rule(4));
        due(90, x.rule(6));
        due(21, x.judge(0, 5));
        due(90 - 2 - 4 - 6 - 1 - 5, x.rule(3));
        JudgeFirst given = sheet(FIVE).set();
        for (int i = 0; i < 5; i++) {
            given.give(FIVE[3 * i], FIVE[3 * i + 1], FIVE[3 * i + 2]);
        }
        Trace.alike(given, x);
    }

    public void p36AsManyAsAsked() {
        for (int n = 0; n <= 5; n++) {
            int many = n;
            sheet(FIVE).answers(many, x -> x.read(1, 1, 0, many));
            sheet(FIVE).then(many, x -> x.read(1, 1, 0, many)).answers((1 << many) - 1, x -> x.rule(4));
            sheet(FIVE).then(many, x -> x.read(1, 1, 0, many)).answers(0, x -> x.torn());
        }
    }

    public void p36FromCellF() {
        for (int f = 0; f <= 2; f++) {
            int from = f;
            int[] cells = new int[f + 6];
            System.arraycopy(FIVE, 0, cells, f, 6);
            sheet(cells).then(2, x -> x.read(1, 1, from, 2)).answers(3, x -> x.rule(4));
            sheet(cells).then(1, x -> x.read(1, 1, from + 3, 1)).answers(2, x -> x.rule(4));
        }
    }

    public void p36TheLastCells() {
        int[] cells = new int[40];
        cells[37] = 2;
        cells[38] = 1;
        cells[39] = 33;
        sheet(cells).then(1, x -> x.read(1, 1, 37, 1)).answers(33, x -> x.suit(2, 4));
        sheet(cells).then(1, x -> x.read(1, 1, 37, 2)).answers(INDEX, x -> x.torn());
        for (int f : new int[] {38, 39, 40, 41}) {
            sheet(cells).then(0, x -> x.read(1, 1, f, 1)).answers(INDEX, x -> x.torn());
        }
    }

    // "What the machine refuses: those that were whole ahead came (its FAULT is asked by torn())"

    public void p36WholeOnesAheadCome() {
        for (int size = 0; size <= 15; size++) {
            int whole = size / 3;
            Bench x = sheet(first(FIVE, size));
            for (int n : new int[] {whole + 1, 13}) {
                x.answers(whole, y -> y.read(1, 1, 0, n));
                x.then(whole, y -> y.read(1, 1, 0, n)).answers(INDEX, y -> y.torn());
                x.then(whole, y -> y.read(1, 1, 0, n)).answers((1 << whole) - 1, y -> y.rule(4));
            }
        }
    }

    public void p36NoSuchCell() {
        for (int f : new int[] {-1, -2, -3, -4, 13, 14, 15, 40, LOW, LOW + 2, HIGH, HIGH - 1, HIGH - 2, HIGH - 3}) {
            for (int n : new int[] {1, 13}) {
                sheet(FIVE).then(0, x -> x.read(1, 1, f, n)).answers(INDEX, x -> x.torn());
                sheet(FIVE).then(0, x -> x.read(1, 1, f, n)).answers(0, x -> x.rule(4));
            }
        }
    }

    public void p36OfNothingOfAnotherLane() {
        for (int f : new int[] {0, -1, 14, LOW, HIGH}) {
            for (int lane = 0; lane <= 2; lane++) {
                int taken = lane;
                // nothing is ahead of INDEX, another lane is ahead of it
                sheet(FIVE).then(0, x -> x.read(0, taken, f, 1)).answers(NULL, x -> x.torn());
                sheet(FIVE).then(0, x -> x.read(3, taken, f, 13)).answers(NULL, x -> x.torn());
                if (taken != 1) {
                    sheet(FIVE).then(0, x -> x.read(1, taken, f, 1)).answers(CAST, x -> x.torn());
                    sheet(FIVE).then(0, x -> x.read(1, taken, f, 13)).answers(0, x -> x.rule(4));
                    sheet().then(0, x -> x.read(1, taken, f, 1)).answers(CAST, x -> x.torn());
                }
            }
        }
    }

    public void p36EachLane() {
        for (int i = 0; i <= 2; i++) {
            int lane = i;
            Bench x = Bench.told(TEXT).laid(3, lane, FIVE);
            for (int k = 0; k <= 2; k++) {
                int taken = k;
                x.answers(taken == lane ? 5 : 0, y -> y.read(3, taken, 0, 5));
                x.then(y -> y.read(3, taken, 0, 5)).answers(taken == lane ? 0 : CAST, y -> y.torn());
            }
        }
    }

    // "of n 0: 0, no FAULT, whatever the SHEET is"

    public void p36OfNone() {
        for (int f : new int[] {0, -1, 40, LOW, HIGH}) {
            for (int lane = 0; lane <= 2; lane++) {
                int taken = lane;
                Bench torn = sheet(FIVE).then(0, x -> x.read(1, 1, 15, 1)).then(INDEX, x -> x.torn());
                torn.then(0, x -> x.read(0, taken, f, 0)).answers(0, x -> x.torn());
                torn.then(0, x -> x.read(1, taken, f, 0)).answers(0, x -> x.torn());
                sheet(FIVE).asks(0, x -> x.read(0, taken, f, 0));
                sheet(FIVE).asks(0, x -> x.read(1, taken, f, 0));
            }
        }
    }

    // "BAD: k, lane, n"

    public void p36WrongNumbers() {
        for (int k : beyond(0, 3)) {
            sheet(FIVE).asks(BAD, x -> x.read(k, 1, 0, 1));
            sheet(FIVE).asks(BAD, x -> x.read(k, 1, 0, 0));
        }
        for (int lane : beyond(0, 2)) {
            sheet(FIVE).asks(BAD, x -> x.read(1, lane, 0, 1));
            sheet(FIVE).asks(BAD, x -> x.read(0, lane, 0, 1));
            sheet(FIVE).asks(BAD, x -> x.read(1, lane, 0, 0));
        }
        for (int n : beyond(0, 13)) {
            sheet(FIVE).asks(BAD, x -> x.read(1, 1, 0, n));
            sheet(FIVE).asks(BAD, x -> x.read(0, 0, -1, n));
        }
    }

    // "-20 less i (from 0 on): the i-th, whole, is refused by give() (in whichever way): then none came; the first met."

    public void p36RefusedByGive() {
        int[][] wrong = {{-1, 0, 5}, {5, 0, 5}, {0, -1, 5}, {0, 2, 5}, {0, 0, 0}, {0, 0, 61}, {0, 0, -1}, {4, 0, 19},
            {4, 0, 41}};
        for (int[] w : wrong) {
            sheet(w).asks(-20, x -> x.read(1, 1, 0, 1));
            sheet(1, 1, 20, w[0], w[1], w[2]).asks(-21, x -> x.read(1, 1, 0, 2));
            sheet(1, 1, 20, w[0], w[1], w[2]).asks(-20, x -> x.read(1, 1, 3, 1));
            sheet(1, 1, 20, w[0], w[1], w[2]).answers(1, x -> x.read(1, 1, 0, 1));
        }
    }

    public void p36RefusedByWhatIs() {
        // heard ahead, heard by the sheet itself, away by the sheet itself
        sheet(0, 0, 5).then(x -> x.give(0, 1, 5)).asks(-20, x -> x.read(1, 1, 0, 1));
        sheet(0, 0, 5, 0, 0, 5).asks(-21, x -> x.read(1, 1, 0, 2));
        sheet(0, 1, 5, 3, 1, 5, 1, 1, 5).asks(-22, x -> x.read(1, 1, 0, 3));
        sheet(0, 1, 5, 3, 1, 5, 1, 0, 5).answers(3, x -> x.read(1, 1, 0, 3));
        // beyond what he can bear, behind what he has borne
        sheet(0, 0, 60, 2, 0, 60).then(x -> x.alter(0, 2, 11)).asks(-21, x -> x.read(1, 1, 0, 2));
        sheet(0, 0, 60, 2, 0, 60).then(x -> x.alter(0, 2, 12)).answers(2, x -> x.read(1, 1, 0, 2));
        // ahead of its DAY
        sheet(0, 0, 5).then(x -> x.amend(0, 3, 1)).asks(-20, x -> x.read(1, 1, 0, 1));
    }

    public void p36TheSixthIsRefused() {
        int[] six = Arrays.copyOf(FIVE, 39);
        sheet(six).asks(-25, x -> x.read(1, 1, 0, 6));
        sheet(six).asks(-25, x -> x.read(1, 1, 0, 13));
        sheet(six).answers(5, x -> x.read(1, 1, 0, 5));
    }

    public void p36TheFirstMet() {
        // what is refused ahead of what is not whole, and what is not whole ahead of all
        sheet(0, 0, 61, 1, 0).asks(-20, x -> x.read(1, 1, 0, 2));
        sheet(0, 0, 5, 0, 0, 5, 1).asks(-21, x -> x.read(1, 1, 0, 13));
        sheet(0, 0, 61).then(0, x -> x.read(1, 1, 1, 1)).answers(INDEX, x -> x.torn());
        sheet(0, 0, 61).then(0, x -> x.read(1, 1, -3, 2)).answers(INDEX, x -> x.torn());
        sheet(0, 0, 61).then(0, x -> x.read(1, 2, 0, 1)).answers(CAST, x -> x.torn());
        sheet(0, 61).then(0, x -> x.read(1, 1, 0, 1)).answers(INDEX, x -> x.torn());
    }

    // ---- promise 37: "The FAULT of the latest read() that answered 0 or more; 0 (one that is refused leaves it)."

    public void p37NoneAtFirst() {
        Bench.nobody().asks(0, x -> x.torn());
        sheet(FIVE).then(-20, x -> x.read(1, 1, 1, 1)).answers(0, x -> x.torn());
    }

    public void p37RefusedOnesLeaveIt() {
        Bench torn = sheet(FIVE).then(0, x -> x.read(1, 0, 0, 1));
        torn.asks(CAST, x -> x.torn());
        torn.asks(-20, x -> x.read(1, 1, 1, 1));
        torn.asks(BAD, x -> x.read(1, 1, 0, 14));
        torn.asks(BAD, x -> x.read(4, 1, 0, 1));
        torn.then(-20, x -> x.read(1, 1, 1, 1)).answers(CAST, x -> x.torn());
        torn.then(BAD, x -> x.read(0, 0, 0, -1)).answers(CAST, x -> x.torn());
    }

    public void p37TheLatestTells() {
        JudgeFirst x = sheet(first(FIVE, 8)).set();
        due(0, x.read(1, 2, 0, 1));
        due(CAST, x.torn());
        due(0, x.read(0, 2, 0, 1));
        due(NULL, x.torn());
        due(2, x.read(1, 1, 0, 3));
        due(INDEX, x.torn());
        due(INDEX, x.torn());
        x.appeal(0);
        due(1, x.read(1, 1, 0, 1));
        due(0, x.torn());
    }

    public void p37OtherCallsLeaveIt() {
        JudgeFirst x = sheet(FIVE).then(0, y -> y.read(1, 2, 0, 1)).set();
        x.sheet(1, 2, -1);
        x.sheet(1, 2, 9);
        x.lay(1, 9, 0);
        x.lay(0, 0, 0);
        x.keep(0);
        x.days(1);
        x.back(0);
        x.text();
        due(CAST, x.torn());
    }

    // ---- promise 38: "0 SEEN, 1 IMAGES, 2 bytes on THE TAPE, 3 CELLS of SHEET 0 (NONE: nothing), 4 all PURSES, summed,
    // 5 all SCARS, summed. BAD."

    public void p38EachWhat() {
        Bench x = busy().then(y -> y.keep(1)).fed("old").laid(0, 1, 5, 5, 5, 5);
        int[] count = {2, 1, 3, 4, 198, 4};
        for (int i = 0; i < count.length; i++) {
            int what = i;
            x.asks(count[what], y -> y.count(what));
        }
    }

    public void p38NoneAndMost() {
        busy().asks(NONE, x -> x.count(3));
        laid().asks(NONE, x -> x.count(3));
        busy().then(x -> x.sheet(0, 0, 0)).asks(0, x -> x.count(3));
        busy().then(x -> x.sheet(0, 0, 40)).asks(40, x -> x.count(3));
        Bench.told("plain 9 99;plain 9 99;plain 9 99;plain 9 99;").asks(396, x -> x.count(4));
        Bench.told("plain 9 0;").asks(0, x -> x.count(4));
        Bench.nobody().fed(blanks(160)).asks(160, x -> x.count(2));
    }

    public void p38ScarsOfAll() {
        Bench x = Bench.told("plain 20 0;old 20 0;lash 60 60 0;lash 60 60 0;stocks 1 1 0;stocks 1 1 0;")
            .then(y -> y.give(0, 0, 60)).then(y -> y.give(1, 1, 60)).then(y -> y.give(2, 0, 1)).then(y -> y.give(3, 1, 1));
        x.asks(11, y -> y.count(5));
        x.then(y -> y.appeal(0)).asks(5, y -> y.count(5));
    }

    public void p38WrongNumbers() {
        for (int what : beyond(0, 5)) {
            laid().asks(BAD, x -> x.count(what));
            Bench.nobody().asks(BAD, x -> x.count(what));
        }
    }
}
