/** The bounds that the document names for a new object, the tape, the text and its faults: promises 1 to 5. */
public final class TextEdges extends Tests {
    /** A bench on which there is something of all that a text could spoil. */
    private static Bench stood() {
        return Bench.told("plain 9 9;old 8 7;stocks 5 9 0;lash 20 30 0;crime 33;").then(x -> x.see(0, 0, 1))
            .then(x -> x.give(0, 0, 6)).then(x -> x.keep(0)).then(x -> x.days(2)).then(x -> x.give(1, 1, 25))
            .then(x -> x.keep(1)).laid(0, 0, 0, 0, 7).laid(2, 2, 0, 0, 20, 1, 0, 9).then(x -> x.docket(9, 0));
    }

    /** A text with a fault at the place that is marked by '|'. */
    private static void faulty(int fault, String marked) {
        int place = marked.indexOf('|');
        faulty(fault, place, marked.substring(0, place) + marked.substring(place + 1));
    }

    /** The tape is empty behind it, and nothing else is other than before. */
    private static void faulty(int fault, int place, String text) {
        JudgeFirst x = stood().fed(text).set();
        int answer = x.text();
        if (answer != -10 - place || x.fault() != fault) {
            throw new AssertionError("'" + text + "' answered " + answer + " with fault " + x.fault()
                    + ", due is " + (-10 - place) + " with " + fault);
        }
        due(0, x.count(2));
        Trace.alike(stood().set(), x, "fault");
    }

    private static JudgeFirst taken(int lines, String text) {
        JudgeFirst x = Bench.nobody().fed(text).set();
        int answer = x.text();
        if (answer != lines || x.fault() != 0 || x.count(2) != 0) {
            throw new AssertionError("'" + text + "' answered " + answer + ", due is " + lines);
        }
        return x;
    }

    // ---- promise 1: "Nobody, no CASES; SHEETS of nothing."

    public void p01NobodyNoCases() {
        JudgeFirst x = new JudgeFirst();
        int[] rule = {0, 0, 0, 20, 0, 0, 0};
        for (int what = 0; what < rule.length; what++) {
            due(rule[what], x.rule(what));
        }
        for (int i = 0; i < 5; i++) {
            due(BAD, x.judge(i, 0));
            due(BAD, x.suit(i, 0));
            due(BAD, x.kinds(i));
            due(BAD, x.terms(i, 0));
            due(BAD, x.appeal(i));
            due(BAD, x.hears(i, 0));
        }
        due(BAD, x.tenth(0, 1));
        due(BAD, x.can(0, 1));
        due(BAD, x.give(0, 0, 1));
        due(BAD, x.see(0, 0, 0));
    }

    public void p01WhatIsReckonedOfNobody() {
        JudgeFirst x = new JudgeFirst();
        int[] docket = {0, 20, 0, 0, 0, 0};
        for (int what = 0; what < docket.length; what++) {
            due(docket[what], x.docket(0, what));
            due(docket[what], x.docket(30, what));
        }
        due(0, x.best(0));
        due(20, x.best(1));
        due(BAD, x.best(10));
        due(0, x.order(30, 0));
        due(NONE, x.order(30, 10));
        due(NONE, x.spare(30));
        due(0, x.hopeless());
        due(20, x.mean(10, 0));
        due(1, x.mean(10, 1));
        due(STATE, x.drift(1, 1, 0));
        due(20, x.days(30));
    }

    public void p01SheetsOfNothingNoImages() {
        JudgeFirst x = new JudgeFirst();
        int[] count = {0, 0, 0, NONE, 0, 0};
        for (int what = 0; what < count.length; what++) {
            due(count[what], x.count(what));
        }
        for (int k = 0; k < 4; k++) {
            due(-11, x.lay(k, 0, 0));
            due(0, x.read(k, 0, 0, 1));
            due(1, x.torn());
        }
        due(STATE, x.back(0));
        due(STATE, x.back(1));
        due(0, x.keep(0));
        due(0, x.keep(1));
    }

    public void p01ObjectsAreTheirOwn() {
        JudgeFirst x = stood().set();
        JudgeFirst y = new JudgeFirst();
        Due.feed(y, "old 3 3;gaol 9 9 0;crime 3;");
        y.text();
        y.give(0, 0, 9);
        y.days(9);
        y.see(0, 0, 3);
        y.keep(0);
        y.keep(1);
        y.sheet(0, 1, 9);
        y.read(0, 0, 0, 1);
        y.feed('?');
        y.text();
        Trace.alike(stood().set(), x);
        Trace.alike(new JudgeFirst(), new JudgeFirst());
    }

    // ---- promise 2: "A byte (0 to 127) comes behind THE TAPE: how many it has. BAD; FULL: more than 160."

    public void p02EachByteIsTaken() {
        JudgeFirst x = new JudgeFirst();
        for (int c = 0; c <= 127; c++) {
            due(c + 1, x.feed(c));
        }
        due(128, x.count(2));
    }

    public void p02NoByteIsBad() {
        for (int c : new int[] {-1, 128, -128, 255, 256 + ';', 65536 + ';', LOW, LOW + ';', HIGH}) {
            stood().fed("crime 7").asks(BAD, x -> x.feed(c));
            Bench.nobody().asks(BAD, x -> x.feed(c));
        }
    }

    public void p02BytesComeBehind() {
        JudgeFirst x = Bench.nobody().fed("crime 1").set();
        due(8, x.feed('2'));
        due(9, x.feed(';'));
        due(1, x.text());
        due(12, x.rule(3));
    }

    public void p02The160thFits() {
        JudgeFirst x = Bench.nobody().fed("crime 7" + blanks(152)).set();
        due(159, x.count(2));
        due(160, x.feed(';'));
        due(160, x.count(2));
        due(1, x.text());
        due(7, x.rule(3));
    }

    public void p02The161stIsRefused() {
        Bench full = Bench.nobody().fed(blanks(152) + "crime 7;");
        full.asks(FULL, x -> x.feed(' '));
        full.asks(FULL, x -> x.feed(0));
        full.asks(FULL, x -> x.feed(127));
        full.then(FULL, x -> x.feed('?')).then(FULL, x -> x.feed('?')).then(x -> x.text()).answers(7, x -> x.rule(3));
    }

    public void p02BadAheadOfFull() {
        Bench full = Bench.nobody().fed(blanks(160));
        full.asks(BAD, x -> x.feed(128));
        full.asks(BAD, x -> x.feed(-1));
    }

    public void p02RoomAgainBehindAText() {
        JudgeFirst x = Bench.nobody().fed(blanks(160)).then(JudgeFirst::text).set();
        due(1, x.feed(' '));
        JudgeFirst torn = Bench.nobody().fed(blanks(159) + "?").then(-169, JudgeFirst::text).set();
        due(1, torn.feed(' '));
    }

    // ---- promise 3: "THE TAPE keeps its first n bytes: how many it had. BAD (n above that, too)."

    public void p03AllOfThem() {
        Bench.told("old 2 2;").fed("crime 7;").asks(8, x -> x.end(8));
        Bench.nobody().asks(0, x -> x.end(0));
        Bench.nobody().fed(blanks(160)).asks(160, x -> x.end(160));
    }

    public void p03TheFirstAreKept() {
        JudgeFirst x = Bench.nobody().fed("crime 7;crime 9;").set();
        due(16, x.end(8));
        due(8, x.count(2));
        due(1, x.text());
        due(7, x.rule(3));
        JudgeFirst one = Bench.nobody().fed("crime 7;").then(x1 -> x1.end(7)).fed("5;").set();
        due(1, one.text());
        due(75, one.rule(3));
    }

    public void p03NoneIsKept() {
        JudgeFirst x = Bench.nobody().fed("crime 7;").set();
        due(8, x.end(0));
        due(0, x.count(2));
        due(0, x.end(0));
        due(0, x.text());
        due(20, x.rule(3));
    }

    public void p03WrongNumbers() {
        for (int n : new int[] {-1, 9, 160, 161, LOW, HIGH}) {
            stood().fed("crime 7;").asks(BAD, x -> x.end(n));
        }
        for (int n : new int[] {-1, 1, 160, LOW, HIGH}) {
            Bench.nobody().asks(BAD, x -> x.end(n));
        }
        Bench full = Bench.nobody().fed(blanks(160));
        full.asks(BAD, x -> x.end(161));
    }

    public void p03MakesRoom() {
        JudgeFirst x = Bench.nobody().fed(blanks(160)).set();
        due(160, x.end(159));
        due(160, x.feed(' '));
        due(FULL, x.feed(' '));
    }

    public void p03LeavesWhatIsTold() {
        Trace.alike(stood().set(), stood().fed("crime 7;").then(x -> x.end(0)).set());
    }

    // ---- promise 4: "THE TAPE (empty then, by a FAULT, too) tells all: how many lines; -10 less the place."

    public void p04NoLines() {
        for (String empty : new String[] {"", " ", blanks(160)}) {
            JudgeFirst x = taken(0, empty);
            due(0, x.rule(0));
            due(20, x.rule(3));
        }
    }

    public void p04AnEmptyTextTellsNobody() {
        JudgeFirst x = stood().set();
        due(0, x.text());
        int[] rule = {0, 0, 0, 20, 0, 0, 0};
        for (int what = 0; what < rule.length; what++) {
            due(rule[what], x.rule(what));
        }
        due(0, x.count(0));
        due(0, x.count(1));
        due(0, x.count(4));
        due(0, x.count(5));
    }

    public void p04LinesOfEachKindAndSort() {
        String[] words = {"plain 3 0;", "young 3 0;", "old 3 0;", "hermit 3 0;", "gaol 2 4 0;", "fine 2 4 0;",
            "lash 2 4 0;", "stocks 2 4 0;"};
        for (int i = 0; i < words.length; i++) {
            JudgeFirst x = taken(1, words[i]);
            due(i < 4 ? 1 : 0, x.rule(0));
            due(i < 4 ? 0 : 1, x.rule(1));
            due(i % 4, i < 4 ? x.judge(0, 0) : x.suit(0, 0));
        }
    }

    public void p04AllLinesThatFit() {
        JudgeFirst x = taken(10, "crime 0;gaol 1 1 0;fine 60 60 20;lash 1 60 1;stocks 7 8 9;gaol 5 6 7;"
            + "plain 1 0;young 20 99;old 2 3;hermit 4 5;");
        due(4, x.rule(0));
        due(5, x.rule(1));
        due(0, x.rule(3));
        int[][] judges = {{0, 1, 0, 0, 0, 0}, {1, 20, 99, 0, 0, 0}, {2, 2, 3, 0, 0, 0}, {3, 4, 5, 0, 0, 0}};
        int[][] suits = {{0, 1, 1, 0, 0, NONE}, {1, 60, 60, 20, 0, NONE}, {2, 1, 60, 1, 0, NONE},
            {3, 7, 8, 9, 0, NONE}, {0, 5, 6, 7, 0, NONE}};
        for (int what = 0; what <= 5; what++) {
            for (int j = 0; j < 4; j++) {
                due(judges[j][what], x.judge(j, what));
            }
            for (int c = 0; c < 5; c++) {
                due(suits[c][what], x.suit(c, what));
            }
        }
    }

    public void p04JudgesAndCasesInterwoven() {
        JudgeFirst x = taken(6, "gaol 1 2 3;old 1 2;crime 99;fine 4 5 6;plain 3 4;lash 7 8 9;");
        due(2, x.judge(0, 0));
        due(0, x.judge(1, 0));
        due(1, x.suit(1, 0));
        due(9, x.suit(2, 3));
        due(99, x.rule(3));
    }

    // "A text that is taken tells all, in place of what there was (what it does not tell is as at first);
    // nothing is SEEN; IMAGES are gone; SHEETS stay."

    public void p04WhatItDoesNotTellIsAsAtFirst() {
        JudgeFirst x = stood().fed("young 3 4;gaol 7 8 9;").set();
        due(2, x.text());
        int[] rule = {1, 1, 0, 20, 0, 0, 0};
        for (int what = 0; what < rule.length; what++) {
            due(rule[what], x.rule(what));
        }
        int[] judge = {1, 3, 4, 0, 0, 0};
        int[] suit = {0, 7, 8, 9, 0, NONE};
        for (int what = 0; what <= 5; what++) {
            due(judge[what], x.judge(0, what));
            due(suit[what], x.suit(0, what));
        }
        due(BAD, x.judge(1, 0));
        due(BAD, x.suit(1, 0));
    }

    public void p04WhatWasReckonedIsNotTold() {
        // dockets, drifts, sheets that are refused leave nothing for a text to find
        int[] cells = {0, 0, 5, 1, 1, 20, 2, 1, 60, 3, 0, 8};
        String text = "plain 9 9;old 9 9;stocks 5 9 0;lash 20 30 0;";
        Bench due = Bench.nobody().laid(1, 1, cells).fed(text).then(JudgeFirst::text);
        Bench x = Bench.told(text + "gaol 60 60 0;fine 9 9 0;").then(y -> y.see(1, 1, 2)).laid(1, 1, cells);
        Bench docket = x.then(y -> y.docket(9, 0)).fed(text).then(JudgeFirst::text);
        Trace.alike(due.set(), docket.set());
        Bench drift = x.then(y -> y.drift(7, 60, 0)).fed(text).then(JudgeFirst::text);
        Trace.alike(due.set(), drift.set());
        Bench read = x.then(-23, y -> y.read(1, 1, 0, 4)).fed(text).then(JudgeFirst::text);
        Trace.alike(due.set(), read.set());
    }

    public void p04CrimeAloneLeavesNobody() {
        JudgeFirst x = stood().fed("crime 5;").set();
        due(1, x.text());
        due(0, x.rule(0));
        due(0, x.rule(1));
        due(5, x.rule(3));
    }

    public void p04NothingIsSeenImagesAreGoneSheetsStay() {
        JudgeFirst x = stood().then(-12, y -> y.lay(2, 6, 1)).fed("plain 9 9;gaol 1 60 0;").set();
        due(2, x.text());
        due(0, x.count(0));
        due(15, x.kinds(0));
        due(0, x.count(1));
        due(STATE, x.back(0));
        due(STATE, x.back(1));
        due(3, x.count(3));
        due(1, x.read(2, 2, 0, 1));
        due(20, x.suit(0, 4));
    }

    public void p04WhatWasSeenIsNotThereAgain() {
        JudgeFirst x = stood().fed("plain 9 9;stocks 5 9 0;").set();
        x.text();
        due(0, x.forget(0));
        due(BAD, x.forget(1));
        due(1, x.see(0, 0, 2));
        due(8, x.kinds(0));
    }

    public void p04AFaultLeavesAllAndEmptiesTheTape() {
        faulty(2, "|;");
        faulty(1, "crime 5;plain 3 3;gaol 5 6 7;|?");
        faulty(3, "old 3 3;crime 99;lash 1 2 |21;");
    }

    public void p04TheTapeIsEmptyThen() {
        JudgeFirst x = Bench.nobody().fed("crime 7;").then(JudgeFirst::text).set();
        due(0, x.text());
        due(20, x.rule(3));
        JudgeFirst y = Bench.nobody().fed("crime 7;?").then(-18, JudgeFirst::text).fed("crime 8;").set();
        due(1, y.text());
        due(8, y.rule(3));
    }

    // ---- tokens: "each as long as may be, blanks (32) ahead, between, behind, as many as wanted (at least one between
    // two NAMES, between two NUMBERS; else none is needed): NAMES (a .. z), NUMBERS (1 or 2 figures), the sign ;"

    public void p04NoBlanksAreNeeded() {
        JudgeFirst x = taken(3, "hermit7 8;stocks9 10 11;crime12;");
        due(8, x.judge(0, 2));
        due(9, x.suit(0, 1));
        due(10, x.suit(0, 2));
        due(11, x.suit(0, 3));
        due(12, x.rule(3));
    }

    public void p04AsManyBlanksAsWanted() {
        JudgeFirst x = taken(2, "   old    7   8   ;     gaol  1    2 3 ;   ");
        due(7, x.judge(0, 1));
        due(2, x.suit(0, 2));
        due(9, taken(1, "plain" + blanks(90) + "9" + blanks(60) + "3;").judge(0, 1));
        due(9, taken(1, blanks(70) + "crime" + blanks(70) + "9;").rule(3));
    }

    public void p04TokensAreAsLongAsMayBe() {
        faulty(2, "|plainplain 1 1;");
        faulty(2, "|crimecrime 5;");
        faulty(2, "plain |plainplain");
        faulty(1, "plain |1234;");
        due(12, taken(1, "crime12;").rule(3));
        faulty(2, "plain 12|;");
        faulty(2, "|" + "a".repeat(160));
        faulty(2, "|" + "plain".repeat(30) + " 1 1;");
        faulty(2, "crime |" + "z".repeat(150));
        faulty(1, "plain 1 |" + "7".repeat(150));
        faulty(2, "plain 1 2 |3;");
    }

    public void p04OneOrTwoFigures() {
        due(5, taken(1, "crime 5;").rule(3));
        due(5, taken(1, "crime 05;").rule(3));
        due(0, taken(1, "crime 00;").rule(3));
        due(90, taken(1, "crime 90;").rule(3));
        due(9, taken(1, "crime 09;").rule(3));
        faulty(1, "crime |005;");
        faulty(1, "crime |100;");
        faulty(1, "crime |" + "0".repeat(150));
    }

    // ---- faults: "1 no TOKEN, a NUMBER that is too long (its first byte)."

    public void p05BytesThatBeginNoToken() {
        for (int c = 0; c <= 127; c++) {
            String sign = String.valueOf((char) c);
            boolean token = c == ' ' || c == ';' || c >= 'a' && c <= 'z' || c >= '0' && c <= '9';
            if (!token) {
                faulty(1, 0, sign);
                faulty(1, 8, "crime 5;" + sign + ";");
                faulty(1, 7, "crime 5" + sign + ";");
                faulty(1, 5, "crime" + sign + "5;");
            }
        }
    }

    public void p05BytesThatBeginOne() {
        taken(1, "crime 5 ;");
        faulty(2, "crime 5;|;");
        for (char c = 'a'; c <= 'z'; c++) {
            faulty(2, "crime 5|" + c + ";");
            faulty(2, "|" + c);
        }
        for (char c = '0'; c <= '9'; c++) {
            due(50 + c - '0', taken(1, "crime 5" + c + ";").rule(3));
            faulty(2, "crime 5 |" + c + ";");
            faulty(2, "|" + c);
        }
    }

    public void p05ANumberThatIsTooLong() {
        faulty(1, "|123;");
        faulty(1, "plain |123 1;");
        faulty(1, "plain 1 |000;");
        faulty(1, "plain 1 1 |345;");
        faulty(1, "plain 1 1   |345");
        faulty(1, "fine 5 |100 1;");
        taken(1, "plain 12 34;");
    }

    // "2 a TOKEN that can not stand there (a NAME that begins no line; or the end: the length)."

    public void p05ANameThatBeginsNoLine() {
        String[] names = {"plai", "plains", "lain", "youn", "youngs", "ol", "olds", "hermi", "hermits", "gao", "gaols",
            "fin", "fines", "las", "lashes", "stock", "stockss", "crim", "crimes", "a", "judge", "text", "x"};
        for (String name : names) {
            faulty(2, "|" + name + " 1 1;");
            faulty(2, "crime 5; |" + name);
        }
    }

    public void p05OtherTokensBeginNoLine() {
        faulty(2, "|;");
        faulty(2, "  |;");
        faulty(2, "|7;");
        faulty(2, "crime 5;|;");
        faulty(2, "crime 5; |5;");
    }

    public void p05TheEndWhereATokenIsDue() {
        for (String kind : KINDS) {
            faulty(2, kind + "|");
            faulty(2, kind + " 1|");
            faulty(2, kind + " 1 1|");
            faulty(2, kind + " 1 1   |");
        }
        for (String sort : SORTS) {
            faulty(2, sort + "|");
            faulty(2, sort + " 5  |");
            faulty(2, sort + " 5 5|");
            faulty(2, sort + " 5 5 5|");
        }
        faulty(2, "crime|");
        faulty(2, "crime 5|");
        faulty(2, "crime 5;old |");
    }

    public void p05TheEndOfAFullTape() {
        faulty(2, "plain 1 1" + blanks(151) + "|");
        faulty(2, blanks(155) + "crime|");
        faulty(1, blanks(159) + "|?");
        faulty(2, blanks(159) + "|;");
    }

    public void p05TooFewNumbersTooMany() {
        for (String kind : KINDS) {
            faulty(2, kind + "|;");
            faulty(2, kind + " 1|;");
            faulty(2, kind + " 1 1 |1;");
            faulty(2, kind + " |x 1;");
            faulty(2, kind + " 1 |x;");
            faulty(2, kind + " 1 1|x;");
            faulty(2, kind + " |" + kind + " 1 1;");
            faulty(2, kind + " 1 1 |crime 1;");
        }
        for (String sort : SORTS) {
            faulty(2, sort + "|;");
            faulty(2, sort + " 5|;");
            faulty(2, sort + " 5 5|;");
            faulty(2, sort + " 5 5 5 |5;");
            faulty(2, sort + " |x 5 5;");
            faulty(2, sort + " 5 |x 5;");
            faulty(2, sort + " 5 5 |x;");
            faulty(2, sort + " 5 5 5|x;");
        }
        faulty(2, "crime|;");
        faulty(2, "crime 5 |5;");
        faulty(2, "crime |x;");
        faulty(2, "crime 5|x;");
    }

    // "3 a NUMBER out of its bounds (MOST: less than LEAST)."

    public void p05BoundsOfJudges() {
        for (String kind : KINDS) {
            due(1, taken(1, kind + " 1 0;").judge(0, 1));
            due(20, taken(1, kind + " 20 99;").judge(0, 1));
            due(0, taken(1, kind + " 1 0;").judge(0, 2));
            due(99, taken(1, kind + " 20 99;").judge(0, 2));
            faulty(3, kind + " |0 5;");
            faulty(3, kind + " |00 5;");
            faulty(3, kind + " |21 5;");
            faulty(3, kind + " |99 5;");
            faulty(1, kind + " 5 |100;");
        }
    }

    public void p05BoundsOfCases() {
        for (String sort : SORTS) {
            due(1, taken(1, sort + " 1 1 0;").suit(0, 2));
            due(60, taken(1, sort + " 60 60 20;").suit(0, 1));
            due(60, taken(1, sort + " 1 60 20;").suit(0, 2));
            due(20, taken(1, sort + " 1 60 20;").suit(0, 3));
            due(0, taken(1, sort + " 1 60 0;").suit(0, 3));
            faulty(3, sort + " |0 5 0;");
            faulty(3, sort + " |61 61 0;");
            faulty(3, sort + " |99 5 0;");
            faulty(3, sort + " 5 |4 0;");
            faulty(3, sort + " 5 |0 0;");
            faulty(3, sort + " 1 |0 0;");
            faulty(3, sort + " 60 |59 0;");
            faulty(3, sort + " 5 |61 0;");
            faulty(3, sort + " 5 |99 0;");
            faulty(3, sort + " 5 5 |21;");
            faulty(3, sort + " 5 5 |99;");
        }
    }

    public void p05BoundsOfCrime() {
        due(0, taken(1, "crime 0;").rule(3));
        due(99, taken(1, "crime 99;").rule(3));
        faulty(1, "crime |100;");
    }

    // "4 crime for the second time (its NAME)."

    public void p05CrimeForTheSecondTime() {
        faulty(4, "crime 5;|crime 5;");
        faulty(4, "crime 0;|crime 0;");
        faulty(4, "crime 5;old 1 1;gaol 5 5 5;  |crime");
        faulty(4, "crime 5;|crime 100;");
        faulty(4, "crime 5;|crime?");
        faulty(4, "crime 5;|crime;");
    }

    public void p05CrimeOnceInEachText() {
        JudgeFirst x = Bench.told("crime 5;").fed("crime 6;").then(1, JudgeFirst::text).set();
        due(6, x.rule(3));
        Bench.nobody().fed("crime 5;?").then(-18, JudgeFirst::text).fed("crime 6;").then(1, JudgeFirst::text)
            .answers(6, y -> y.rule(3));
    }

    // "5 the 5th JUDGE, the 6th CASE (its NAME)."

    public void p05TheFifthJudge() {
        taken(4, "old 1 1;young 1 1;plain 1 1;hermit 1 1;");
        for (String kind : KINDS) {
            faulty(5, "old 1 1;young 1 1;plain 1 1;hermit 1 1;|" + kind + " 1 1;");
            faulty(5, "old 1 1;old 1 1;gaol 5 5 5;old 1 1;old 1 1; crime 5;  |" + kind);
            faulty(5, "old 1 1;old 1 1;old 1 1;old 1 1;|" + kind + " 0 x");
            faulty(5, "old 1 1;old 1 1;old 1 1;old 1 1;|" + kind + "?");
        }
    }

    public void p05TheSixthCase() {
        String five = "gaol 5 5 5;fine 5 5 5;lash 5 5 5;stocks 5 5 5;gaol 5 5 5;";
        taken(5, five);
        for (String sort : SORTS) {
            faulty(5, five + "|" + sort + " 5 5 5;");
            faulty(5, five + "old 1 1;crime 5;|" + sort);
            faulty(5, five + "|" + sort + " 0 x");
            faulty(5, five + "|" + sort + "?");
        }
        taken(7, five + "old 1 1;crime 5;");
    }

    public void p05JudgesAndCasesAreCountedAnewInEachText() {
        String four = "old 1 1;old 1 1;old 1 1;old 1 1;";
        String five = "gaol 5 5 5;gaol 5 5 5;gaol 5 5 5;gaol 5 5 5;gaol 5 5 5;";
        Bench.told(four + five).fed(four + five).answers(9, JudgeFirst::text);
        Bench.nobody().fed(four + five + "?").then(-97, JudgeFirst::text).fed(four + five).answers(9, JudgeFirst::text);
    }

    // "the first met as it is read (a TOKEN is read when the one before has been taken)"

    public void p05TheFirstFaultMet() {
        faulty(3, "plain |0 ?;");
        faulty(3, "plain |0?");
        faulty(3, "plain |21 100;");
        faulty(3, "gaol 5 |4");
        faulty(3, "gaol 5 |4x;");
        faulty(3, "gaol |0 0 21;");
        faulty(2, "|plainx? 1;");
        faulty(2, "|7?");
        faulty(2, "|;?");
        faulty(2, "plain 5|; 0 0;");
        faulty(1, "plain 5 |? 0;");
        faulty(1, "crime 5|?crime 5;");
        faulty(3, "plain |0 1;crime 5;crime 5;");
        faulty(4, "crime 5;|crime 5;plain 0 0;");
    }

    // ---- promise 5: "The FAULT of the latest text(); 0."

    public void p05NoneAtFirst() {
        due(0, new JudgeFirst().fault());
        Bench.nobody().fed("?").answers(0, JudgeFirst::fault);
    }

    public void p05OfTheLatestText() {
        JudgeFirst x = Bench.nobody().fed("?").then(-10, JudgeFirst::text).set();
        due(1, x.fault());
        due(1, x.fault());
        Due.feed(x, "plain 0 0;");
        due(1, x.fault());
        due(-16, x.text());
        due(3, x.fault());
        x.end(0);
        x.days(3);
        x.keep(0);
        x.back(0);
        due(3, x.fault());
        due(0, x.text());
        due(0, x.fault());
    }

    public void p05NoneBehindATextThatIsTaken() {
        Bench.nobody().fed(";").then(-10, JudgeFirst::text).fed("crime 5;").then(1, JudgeFirst::text)
            .answers(0, JudgeFirst::fault);
    }

    public void p05OnlyAsks() {
        stood().fed("crime 5;").asks(0, JudgeFirst::fault);
        stood().fed(";").then(-10, JudgeFirst::text).fed("crime 5;").asks(2, JudgeFirst::fault);
    }
}
