/** The bounds that the document names for judges, cases, sentences, appeals and days: promises 6 to 16. */
public final class BenchEdges extends Tests {
    private static final String FOUR = "plain 9 4;young 3 20;old 20 0;hermit 5 9;";
    private static final String FIVE = "fine 1 60 0;fine 1 60 0;fine 1 60 0;fine 1 60 0;fine 1 60 0;";

    /** Four judges, five cases, some of them heard, some judges away. */
    private static Bench busy() {
        return Bench.told(FOUR + "gaol 25 60 0;stocks 5 9 0;lash 1 9 2;fine 9 9 20;gaol 1 1 0;crime 44;")
            .then(x -> x.see(3, 0, 4)).then(x -> x.give(0, 3, 35)).then(x -> x.give(1, 1, 5)).then(x -> x.keep(0));
    }

    // ---- promise 6: "0 JUDGES, 1 CASES, 2 DAY, 3 CRIME, 4 CASES that are heard (bits), 5 JUDGES who are AWAY now
    // (bits), 6 all SENTENCES. BAD."

    public void p06EachWhat() {
        int[] now = {4, 5, 0, 36, 3, 10, 40};
        for (int i = 0; i < now.length; i++) {
            int what = i;
            busy().asks(now[what], x -> x.rule(what));
        }
    }

    public void p06WrongNumbers() {
        for (int what : beyond(0, 6)) {
            busy().asks(BAD, x -> x.rule(what));
            Bench.nobody().asks(BAD, x -> x.rule(what));
        }
    }

    public void p06NoneAndAllAreHeard() {
        Bench none = Bench.told("plain 20 99;" + FIVE);
        none.answers(0, x -> x.rule(4));
        none.answers(0, x -> x.rule(6));
        Bench all = none;
        for (int i = 0; i < 5; i++) {
            int c = i;
            all = all.then(x -> x.give(c, 0, 60));
        }
        all.answers(31, x -> x.rule(4));
        all.answers(300, x -> x.rule(6));
        all.answers(31, x -> x.judge(0, 5));
        all.then(x -> x.appeal(2)).answers(27, x -> x.rule(4));
        all.then(x -> x.appeal(2)).answers(240, x -> x.rule(6));
    }

    public void p06AllAreAway() {
        Bench x = Bench.told("plain 9 9;plain 9 9;plain 9 9;plain 9 9;"
            + "gaol 1 1 0;gaol 1 1 0;gaol 1 1 0;stocks 1 1 0;");
        for (int i = 0; i < 4; i++) {
            int c = i;
            x = x.then(y -> y.give(c, c, 1));
        }
        x.answers(15, y -> y.rule(5));
        // until DAY or earlier is not AWAY
        x.then(y -> y.days(1)).answers(0, y -> y.rule(5));
        x.then(y -> y.days(1)).answers(1, y -> y.judge(0, 3));
    }

    public void p06AwayUntilTheDayBefore() {
        Bench x = Bench.told("plain 9 9;gaol 20 20 0;").then(y -> y.give(0, 0, 20));
        x.answers(1, y -> y.rule(5));
        x.then(y -> y.days(1)).answers(1, y -> y.rule(5));
        x.then(y -> y.days(2)).answers(0, y -> y.rule(5));
        x.then(y -> y.days(3)).answers(0, y -> y.rule(5));
    }

    // ---- promise 7: "0 KIND, 1 HEALTH, 2 PURSE, 3 AWAY until which DAY, 4 SCARS, 5 CASES BY him (bits). BAD."

    public void p07EachWhat() {
        int[][] judges = {{0, 9, 4, 0, 0, 0}, {1, 3, 20, 1, 1, 2}, {2, 20, 0, 0, 0, 0}, {3, 5, 9, 4, 0, 1}};
        for (int i = 0; i < judges.length; i++) {
            for (int k = 0; k <= 5; k++) {
                int j = i;
                int what = k;
                busy().asks(judges[j][what], x -> x.judge(j, what));
            }
        }
    }

    public void p07WrongNumbers() {
        for (int j : beyond(0, 3)) {
            busy().asks(BAD, x -> x.judge(j, 0));
        }
        for (int what : beyond(0, 5)) {
            busy().asks(BAD, x -> x.judge(0, what));
        }
        for (int j : beyond(0, 0)) {
            Bench.told("old 3 3;gaol 5 5 0;gaol 5 5 0;").asks(BAD, x -> x.judge(j, 5));
        }
    }

    // ---- promise 8: "0 SORT, 1 LEAST, 2 MOST, 3 DAY, 4 SENTENCE, 5 BY whom (NONE). BAD."

    public void p08EachWhat() {
        int[][] suits = {{0, 25, 60, 0, 35, 3}, {3, 5, 9, 0, 5, 1}, {2, 1, 9, 2, 0, NONE}, {1, 9, 9, 20, 0, NONE},
            {0, 1, 1, 0, 0, NONE}};
        for (int i = 0; i < suits.length; i++) {
            for (int k = 0; k <= 5; k++) {
                int c = i;
                int what = k;
                busy().asks(suits[c][what], x -> x.suit(c, what));
            }
        }
    }

    public void p08WrongNumbers() {
        for (int c : beyond(0, 4)) {
            busy().asks(BAD, x -> x.suit(c, 0));
        }
        for (int what : beyond(0, 5)) {
            busy().asks(BAD, x -> x.suit(0, what));
        }
        for (int c : beyond(0, 0)) {
            Bench.told("gaol 5 5 0;old 3 3;old 3 3;").asks(BAD, x -> x.suit(c, 5));
        }
    }

    // ---- promise 9: "A TENTH of n (1 to 60) for a JUDGE. BAD."; "plain n by 10 (up); young 1 less than a plain one
    // (1 at least); old half of a plain one (up); hermit twice that of an old one"

    public void p09EachSentence() {
        JudgeFirst x = told(FOUR);
        for (int n = 1; n <= 60; n++) {
            for (int j = 0; j < 4; j++) {
                due(tenth(j, n), x.tenth(j, n));
            }
        }
    }

    public void p09WrongNumbers() {
        for (int n : beyond(1, 60)) {
            for (int i = 0; i < 4; i++) {
                int j = i;
                busy().asks(BAD, x -> x.tenth(j, n));
            }
        }
        for (int j : beyond(0, 3)) {
            busy().asks(BAD, x -> x.tenth(j, 5));
        }
        Bench.told("old 3 3;").asks(BAD, x -> x.tenth(1, 5));
        busy().asks(4, x -> x.tenth(3, 35));
    }

    // ---- promise 10: "KIND, HEALTH, PURSE (what 0 to 2) of a JUDGE becomes v: what it was. BAD."

    public void p10Bounds() {
        int[][] bounds = {{0, 3}, {1, 20}, {0, 99}};
        for (int i = 0; i <= 2; i++) {
            int what = i;
            int low = bounds[what][0];
            int high = bounds[what][1];
            JudgeFirst x = busy().set();
            int was = x.judge(1, what);
            due(was, x.alter(1, what, low));
            due(low, x.judge(1, what));
            due(low, x.alter(1, what, high));
            due(high, x.judge(1, what));
            due(high, x.alter(1, what, was));
            Trace.alike(busy().set(), x);
            for (int v : beyond(low, high)) {
                busy().asks(BAD, y -> y.alter(1, what, v));
            }
        }
    }

    public void p10WrongNumbers() {
        for (int j : beyond(0, 3)) {
            busy().asks(BAD, x -> x.alter(j, 1, 5));
        }
        for (int what : beyond(0, 2)) {
            busy().asks(BAD, x -> x.alter(0, what, 1));
        }
        Bench.told("old 3 3;").asks(BAD, x -> x.alter(1, 1, 5));
    }

    public void p10TheRestStays() {
        JudgeFirst x = busy().set();
        due(3, x.alter(3, 0, 2));
        due(5, x.alter(3, 1, 6));
        due(9, x.alter(3, 2, 7));
        int[] judge = {2, 6, 7, 4, 0, 1};
        for (int what = 0; what <= 5; what++) {
            due(judge[what], x.judge(3, what));
        }
        due(35, x.suit(0, 4));
        due(2, x.tenth(3, 35));
    }

    // ---- promise 11: "SORT, LEAST, MOST, DAY (what 0 to 3) of a CASE becomes v: what it was. BAD (also LEAST above
    // MOST); STATE: it is heard."

    public void p11Bounds() {
        // LEAST no more than MOST: 10 and 40 bound each other
        int[][] bounds = {{0, 3}, {1, 40}, {10, 60}, {0, 20}};
        for (int i = 0; i <= 3; i++) {
            int what = i;
            int low = bounds[what][0];
            int high = bounds[what][1];
            Bench bench = busy().then(x -> x.amend(2, 2, 40)).then(x -> x.amend(2, 1, 10));
            JudgeFirst x = bench.set();
            int was = x.suit(2, what);
            due(was, x.amend(2, what, low));
            due(low, x.suit(2, what));
            due(low, x.amend(2, what, high));
            due(high, x.suit(2, what));
            due(high, x.amend(2, what, was));
            Trace.alike(bench.set(), x);
            for (int v : beyond(low, high)) {
                bench.asks(BAD, y -> y.amend(2, what, v));
            }
        }
    }

    public void p11TheFarthestBounds() {
        JudgeFirst x = told("plain 9 9;gaol 5 60 0;");
        due(5, x.amend(0, 1, 60));
        due(60, x.amend(0, 1, 1));
        due(60, x.amend(0, 2, 1));
        due(1, x.amend(0, 2, 60));
        Bench one = Bench.told("gaol 1 1 0;");
        one.asks(BAD, y -> y.amend(0, 1, 0));
        one.asks(BAD, y -> y.amend(0, 1, 2));
        one.asks(BAD, y -> y.amend(0, 2, 0));
        Bench sixty = Bench.told("gaol 60 60 0;");
        sixty.asks(BAD, y -> y.amend(0, 2, 61));
        sixty.asks(BAD, y -> y.amend(0, 2, 59));
        sixty.asks(BAD, y -> y.amend(0, 1, 61));
    }

    public void p11WrongNumbers() {
        for (int c : beyond(0, 4)) {
            busy().asks(BAD, x -> x.amend(c, 0, 1));
        }
        for (int what : beyond(0, 3)) {
            busy().asks(BAD, x -> x.amend(4, what, 1));
        }
    }

    public void p11HeardBehindBad() {
        int[][] right = {{0, 1}, {1, 25}, {2, 60}, {3, 0}};
        for (int[] r : right) {
            busy().asks(STATE, x -> x.amend(0, r[0], r[1]));
        }
        int[][] wrong = {{-1, 1}, {4, 1}, {0, -1}, {0, 4}, {1, 0}, {1, 61}, {2, 24}, {2, 61}, {3, -1}, {3, 21}};
        for (int[] w : wrong) {
            busy().asks(BAD, x -> x.amend(0, w[0], w[1]));
        }
    }

    public void p11AgainBehindAnAppeal() {
        JudgeFirst x = busy().then(y -> y.appeal(0)).set();
        due(0, x.amend(0, 0, 3));
        due(3, x.suit(0, 0));
    }

    // ---- promise 12: "CRIME becomes v: what it was. BAD."; "CRIME (0 to 99; 20 at first)"

    public void p12Bounds() {
        JudgeFirst x = new JudgeFirst();
        due(20, x.crime(0));
        due(0, x.rule(3));
        due(0, x.crime(99));
        due(99, x.rule(3));
        due(99, x.crime(20));
        Trace.alike(new JudgeFirst(), x);
        for (int v : beyond(0, 99)) {
            Bench.nobody().asks(BAD, y -> y.crime(v));
            busy().asks(BAD, y -> y.crime(v));
        }
    }

    // ---- promise 13: "JUDGES who can hear a CASE now to n (bits). BAD (n below LEAST, above MOST, too)."

    public void p13BoundsOfTheCase() {
        Bench x = Bench.told(FOUR + "gaol 11 20 0;gaol 7 7 0;");
        x.asks(15, y -> y.can(0, 11));
        x.asks(15, y -> y.can(0, 20));
        x.asks(15, y -> y.can(1, 7));
        for (int n : new int[] {10, 21, 0, -1, 61, LOW, HIGH}) {
            x.asks(BAD, y -> y.can(0, n));
        }
        x.asks(BAD, y -> y.can(1, 6));
        x.asks(BAD, y -> y.can(1, 8));
        for (int c : beyond(0, 1)) {
            x.asks(BAD, y -> y.can(c, 11));
        }
    }

    public void p13NobodyIsThere() {
        Bench.told("gaol 5 5 0;").asks(0, x -> x.can(0, 5));
        Bench.told("gaol 5 5 0;").asks(BAD, x -> x.can(0, 6));
    }

    public void p13NotWhatIsHeard() {
        Bench x = Bench.told("plain 9 9;old 9 9;fine 5 9 0;").then(y -> y.give(0, 0, 5));
        x.asks(0, y -> y.can(0, 5));
        x.asks(BAD, y -> y.can(0, 4));
        x.then(y -> y.appeal(0)).asks(3, y -> y.can(0, 5));
    }

    // "DAY is its DAY or later"

    public void p13FromItsDayOn() {
        Bench x = Bench.told("plain 9 9;gaol 5 9 2;");
        x.asks(0, y -> y.can(0, 5));
        x.then(y -> y.days(1)).asks(0, y -> y.can(0, 5));
        x.then(y -> y.days(2)).asks(1, y -> y.can(0, 5));
        x.then(y -> y.days(3)).asks(1, y -> y.can(0, 5));
        Bench last = Bench.told("plain 9 9;gaol 5 9 20;");
        last.then(y -> y.days(19)).asks(0, y -> y.can(0, 9));
        last.then(y -> y.days(20)).asks(1, y -> y.can(0, 9));
    }

    // "he is not AWAY (AWAY until DAY or earlier)"

    public void p13NotWhileAway() {
        Bench x = Bench.told("plain 9 9;gaol 20 20 0;gaol 1 9 0;").then(y -> y.give(0, 0, 20));
        x.asks(0, y -> y.can(1, 5));
        x.then(y -> y.days(1)).asks(0, y -> y.can(1, 5));
        x.then(y -> y.days(2)).asks(1, y -> y.can(1, 5));
        x.then(y -> y.days(3)).asks(1, y -> y.can(1, 5));
    }

    // "fine: PURSE .. must be t or more"; "lash: HEALTH .. must be more than t"

    public void p13WhatIsBorne() {
        for (int kind = 0; kind < 4; kind++) {
            for (int n : new int[] {1, 10, 11, 60}) {
                int t = tenth(kind, n);
                String fined = " 1 " + t + ";" + KINDS[kind] + " 1 " + (t - 1) + ";fine 1 60 0;";
                Bench.told(KINDS[kind] + fined).asks(1, x -> x.can(0, n));
                String lashed = " " + (t + 1) + " 0;" + KINDS[kind] + " " + t + " 0;lash 1 60 0;";
                Bench.told(KINDS[kind] + lashed).asks(1, x -> x.can(0, n));
                Bench.told(KINDS[kind] + " 1 0;gaol 1 60 0;stocks 1 60 0;").asks(1, x -> x.can(0, n));
                Bench.told(KINDS[kind] + " 1 0;gaol 1 60 0;stocks 1 60 0;").asks(1, x -> x.can(1, n));
            }
        }
    }

    // ---- promise 14: "SENTENCING a CASE by a JUDGE to n: CRIME then. BAD (n below LEAST, above MOST, too); STATE."

    /** Each kind, each sort, from day 3 on: he has served and nothing else is other than before. */
    public void p14WhatTheJudgeServes() {
        for (int kind = 0; kind < 4; kind++) {
            for (int sort = 0; sort < 4; sort++) {
                for (int n : new int[] {1, 10, 11, 20, 21, 60}) {
                    int t = tenth(kind, n);
                    JudgeFirst x = served(kind, sort, n);
                    due(kind, x.judge(1, 0));
                    due(sort == 2 ? 20 - t : 20, x.judge(1, 1));
                    due(sort == 1 ? 50 - t : 50, x.judge(1, 2));
                    due(sort == 0 ? 3 + t : sort == 3 ? 4 : 0, x.judge(1, 3));
                    due(sort == 2 ? t : sort == 3 ? 1 : 0, x.judge(1, 4));
                    due(2, x.judge(1, 5));
                    due(n, x.suit(1, 4));
                    due(1, x.suit(1, 5));
                    due(90 - n / 5, x.rule(3));
                    due(0, x.judge(0, 5));
                    due(9, x.judge(0, 1));
                    due(0, x.suit(0, 4));
                }
            }
        }
    }

    private static JudgeFirst served(int kind, int sort, int n) {
        JudgeFirst x = Bench.told("plain 9 9;" + KINDS[kind] + " 20 50;gaol 5 5 0;" + SORTS[sort] + " 1 60 0;")
            .then(y -> y.days(3)).then(y -> y.crime(90)).set();
        due(90 - n / 5, x.give(1, 1, n));
        return x;
    }

    // "CRIME is less by n by 5 (down; 0 at least)"

    public void p14CrimeIsLess() {
        int[][] crimes = {{20, 1, 20}, {20, 4, 20}, {20, 5, 19}, {20, 9, 19}, {20, 10, 18}, {99, 60, 87}, {13, 60, 1},
            {12, 60, 0}, {11, 60, 0}, {1, 9, 0}, {1, 10, 0}, {0, 5, 0}, {0, 60, 0}};
        for (int[] c : crimes) {
            Bench x = Bench.told("plain 9 9;gaol 1 60 0;crime " + c[0] + ";");
            x.answers(c[2], y -> y.give(0, 0, c[1]));
            x.then(y -> y.give(0, 0, c[1])).answers(c[2], y -> y.rule(3));
        }
    }

    public void p14BoundsOfTheCase() {
        Bench x = Bench.told(FOUR + "gaol 11 20 0;gaol 7 7 0;");
        x.answers(18, y -> y.give(0, 0, 11));
        x.answers(16, y -> y.give(0, 3, 20));
        x.answers(19, y -> y.give(1, 0, 7));
        for (int n : new int[] {10, 21, 0, -1, 61, LOW, HIGH}) {
            x.asks(BAD, y -> y.give(0, 0, n));
        }
        x.asks(BAD, y -> y.give(1, 0, 6));
        x.asks(BAD, y -> y.give(1, 0, 8));
        for (int c : beyond(0, 1)) {
            x.asks(BAD, y -> y.give(c, 0, 11));
        }
        for (int j : beyond(0, 3)) {
            x.asks(BAD, y -> y.give(0, j, 11));
        }
        Bench.told("gaol 5 5 0;").asks(BAD, y -> y.give(0, 0, 5));
    }

    public void p14NotWhatIsHeard() {
        Bench x = Bench.told("plain 9 9;old 9 9;fine 5 9 0;").then(y -> y.give(0, 0, 5));
        x.asks(STATE, y -> y.give(0, 0, 5));
        x.asks(STATE, y -> y.give(0, 1, 9));
        x.asks(BAD, y -> y.give(0, 1, 4));
        x.asks(BAD, y -> y.give(0, 1, 10));
        x.asks(BAD, y -> y.give(0, 2, 5));
    }

    public void p14FromItsDayOn() {
        Bench x = Bench.told("plain 9 9;gaol 5 9 2;");
        x.asks(STATE, y -> y.give(0, 0, 5));
        x.asks(BAD, y -> y.give(0, 0, 4));
        x.then(y -> y.days(1)).asks(STATE, y -> y.give(0, 0, 5));
        x.then(y -> y.days(2)).answers(20, y -> y.give(0, 0, 5));
    }

    public void p14NotWhileAway() {
        Bench x = Bench.told("plain 9 9;gaol 20 20 0;gaol 1 9 0;crime 50;").then(y -> y.give(0, 0, 20));
        x.asks(STATE, y -> y.give(1, 0, 5));
        x.then(y -> y.days(1)).asks(STATE, y -> y.give(1, 0, 5));
        x.then(y -> y.days(2)).answers(47, y -> y.give(1, 0, 5));
        Bench stocked = Bench.told("plain 9 9;stocks 20 20 0;gaol 1 9 0;crime 50;").then(y -> y.give(0, 0, 20));
        stocked.asks(STATE, y -> y.give(1, 0, 5));
        stocked.then(y -> y.days(1)).answers(46, y -> y.give(1, 0, 5));
    }

    public void p14WhatIsBorne() {
        for (int kind = 0; kind < 4; kind++) {
            String who = KINDS[kind];
            int t = tenth(kind, 25);
            Bench.told(who + " 1 " + t + ";fine 1 60 0;").then(x -> x.give(0, 0, 25)).answers(0, x -> x.judge(0, 2));
            Bench.told(who + " 1 " + (t - 1) + ";fine 1 60 0;").asks(STATE, x -> x.give(0, 0, 25));
            Bench.told(who + " " + (t + 1) + " 0;lash 1 60 0;").then(x -> x.give(0, 0, 25))
                .answers(1, x -> x.judge(0, 1));
            Bench.told(who + " " + t + " 0;lash 1 60 0;").asks(STATE, x -> x.give(0, 0, 25));
        }
    }

    public void p14ManyOnOneDay() {
        // fines and lashes leave him on the bench
        JudgeFirst x = told("plain 5 3;fine 1 60 0;lash 1 60 0;fine 1 60 0;lash 1 60 0;stocks 1 60 0;crime 50;");
        due(48, x.give(0, 0, 10));
        due(46, x.give(1, 0, 11));
        due(42, x.give(2, 0, 20));
        due(0, x.judge(0, 2));
        due(40, x.give(3, 0, 14));
        due(1, x.judge(0, 1));
        due(4, x.judge(0, 4));
        due(40, x.give(4, 0, 1));
        due(5, x.judge(0, 4));
        due(1, x.judge(0, 3));
        due(31, x.judge(0, 5));
    }

    public void p14AwayBeyondTheLastDay() {
        Bench x = Bench.told("plain 9 9;gaol 60 60 0;");
        for (int i = 0; i < 33; i++) {
            x = x.then(y -> y.days(30));
        }
        x.then(y -> y.days(9)).then(y -> y.give(0, 0, 60)).answers(1005, y -> y.judge(0, 3));
    }

    // ---- promise 15: "a CASE is unheard again (SENTENCE 0, BY NONE), what its JUDGE had of it is undone"

    public void p15EachKindEachSort() {
        for (int kind = 0; kind < 4; kind++) {
            for (int sort = 0; sort < 4; sort++) {
                for (int n : new int[] {1, 10, 11, 60}) {
                    JudgeFirst x = served(kind, sort, n);
                    due(90, x.appeal(1));
                    due(20, x.judge(1, 1));
                    due(50, x.judge(1, 2));
                    due(sort == 0 || sort == 3 ? 3 : 0, x.judge(1, 3));
                    due(0, x.judge(1, 4));
                    due(0, x.judge(1, 5));
                    due(0, x.suit(1, 4));
                    due(NONE, x.suit(1, 5));
                    due(0, x.rule(4));
                    due(90, x.rule(3));
                }
            }
        }
    }

    // "(t as it was at the SENTENCING, whatever his KIND is now)"

    public void p15WhateverHisKindIsNow() {
        for (int kind = 0; kind < 4; kind++) {
            for (int later = 0; later < 4; later++) {
                JudgeFirst fined = served(kind, 1, 60);
                fined.alter(1, 0, later);
                due(90, fined.appeal(1));
                due(50, fined.judge(1, 2));
                due(later, fined.judge(1, 0));
                JudgeFirst lashed = served(kind, 2, 60);
                lashed.alter(1, 0, later);
                due(90, lashed.appeal(1));
                due(20, lashed.judge(1, 1));
                due(0, lashed.judge(1, 4));
            }
        }
    }

    // "gaol, stocks: he is AWAY until now, if it was until later"

    public void p15AwayUntilNow() {
        for (String sort : new String[] {"gaol", "stocks"}) {
            Bench x = Bench.told("plain 9 9;" + sort + " 1 60 0;").then(y -> y.days(5)).then(y -> y.give(0, 0, 10));
            // until 6: later than day 5, day 6 itself, earlier than day 7
            x.then(y -> y.appeal(0)).answers(5, y -> y.judge(0, 3));
            x.then(y -> y.appeal(0)).answers(0, y -> y.rule(5));
            x.then(y -> y.days(1)).then(y -> y.appeal(0)).answers(6, y -> y.judge(0, 3));
            x.then(y -> y.days(2)).then(y -> y.appeal(0)).answers(6, y -> y.judge(0, 3));
        }
        Bench long6 = Bench.told("plain 9 9;gaol 60 60 0;").then(y -> y.give(0, 0, 60));
        long6.then(y -> y.days(5)).then(y -> y.appeal(0)).answers(5, y -> y.judge(0, 3));
        long6.then(y -> y.days(6)).then(y -> y.appeal(0)).answers(6, y -> y.judge(0, 3));
        long6.then(y -> y.days(7)).then(y -> y.appeal(0)).answers(6, y -> y.judge(0, 3));
    }

    public void p15AwayByAnotherCase() {
        // his first gaol is over; he is away by his second: "AWAY until now, if it was until later"
        Bench x = Bench.told("plain 9 9;gaol 1 1 0;gaol 60 60 0;fine 1 1 0;lash 1 1 0;").then(y -> y.give(2, 0, 1))
            .then(y -> y.give(3, 0, 1)).then(y -> y.give(0, 0, 1)).then(y -> y.days(1)).then(y -> y.give(1, 0, 60));
        x.answers(7, y -> y.judge(0, 3));
        x.then(y -> y.appeal(0)).answers(1, y -> y.judge(0, 3));
        // of a fine, a lash nothing of that is undone
        x.then(y -> y.appeal(2)).answers(7, y -> y.judge(0, 3));
        x.then(y -> y.appeal(3)).answers(7, y -> y.judge(0, 3));
    }

    // "PURSE is t more (99 at most)"

    public void p15PurseIs99AtMost() {
        int[][] purses = {{92, 98}, {93, 99}, {94, 99}, {99, 99}, {0, 6}};
        for (int[] p : purses) {
            Bench.told("plain 9 9;fine 60 60 0;").then(x -> x.give(0, 0, 60)).then(x -> x.alter(0, 2, p[0]))
                .then(x -> x.appeal(0)).answers(p[1], x -> x.judge(0, 2));
        }
    }

    // "HEALTH is t more (20 at most), SCARS t less"

    public void p15HealthIs20AtMost() {
        int[][] healths = {{13, 19}, {14, 20}, {15, 20}, {20, 20}, {1, 7}};
        for (int[] h : healths) {
            Bench x = Bench.told("plain 9 9;lash 60 60 0;").then(y -> y.give(0, 0, 60)).then(y -> y.alter(0, 1, h[0]))
                .then(y -> y.appeal(0));
            x.answers(h[1], y -> y.judge(0, 1));
            x.answers(0, y -> y.judge(0, 4));
        }
    }

    public void p15ScarsOfOthersStay() {
        Bench x = Bench.told("plain 20 9;lash 60 60 0;lash 20 20 0;stocks 1 1 0;").then(y -> y.give(0, 0, 60))
            .then(y -> y.give(1, 0, 20)).then(y -> y.give(2, 0, 1));
        x.answers(9, y -> y.judge(0, 4));
        x.then(y -> y.appeal(0)).answers(3, y -> y.judge(0, 4));
        x.then(y -> y.appeal(1)).answers(7, y -> y.judge(0, 4));
        x.then(y -> y.appeal(2)).answers(8, y -> y.judge(0, 4));
    }

    // "CRIME is more by SENTENCE by 5 (down; 99 at most): CRIME then."

    public void p15CrimeIsMore() {
        int[][] crimes = {{50, 4, 50}, {50, 5, 51}, {50, 9, 51}, {50, 60, 62}, {87, 60, 99}, {88, 60, 99}, {99, 60, 99},
            {86, 60, 98}, {99, 1, 99}, {0, 60, 12}};
        for (int[] c : crimes) {
            Bench x = Bench.told("plain 9 9;gaol 1 60 0;").then(y -> y.give(0, 0, c[1])).then(y -> y.crime(c[0]));
            x.answers(c[2], y -> y.appeal(0));
            x.then(y -> y.appeal(0)).answers(c[2], y -> y.rule(3));
        }
        // though CRIME was not less by all of it
        Bench.told("plain 9 9;gaol 60 60 0;crime 3;").then(0, x -> x.give(0, 0, 60)).answers(12, x -> x.appeal(0));
    }

    public void p15Refused() {
        for (int c : beyond(0, 4)) {
            busy().asks(BAD, x -> x.appeal(c));
        }
        busy().asks(STATE, x -> x.appeal(2));
        busy().then(x -> x.appeal(0)).asks(STATE, x -> x.appeal(0));
        Bench.nobody().asks(BAD, x -> x.appeal(0));
    }

    public void p15CanBeGivenAgain() {
        JudgeFirst x = Bench.told("plain 9 9;gaol 60 60 0;").then(y -> y.give(0, 0, 60)).then(y -> y.appeal(0)).set();
        due(1, x.can(0, 60));
        due(8, x.give(0, 0, 60));
        due(6, x.judge(0, 3));
    }

    // ---- promise 16: "n DAYS go (0 to 30): CRIME then. BAD; FULL: DAY would be 1000 or more."

    public void p16NoDays() {
        busy().asks(36, x -> x.days(0));
        Bench.nobody().asks(20, x -> x.days(0));
    }

    public void p16OneAndThirty() {
        JudgeFirst x = told("plain 9 9;");
        due(20, x.days(1));
        due(1, x.rule(2));
        due(20, x.days(30));
        due(31, x.rule(2));
    }

    public void p16WrongNumbers() {
        for (int n : beyond(0, 30)) {
            busy().asks(BAD, x -> x.days(n));
        }
    }

    public void p16TheLastDay() {
        Bench x = Bench.nobody();
        for (int i = 0; i < 32; i++) {
            x = x.then(y -> y.days(30));
        }
        Bench at969 = x.then(y -> y.days(9));
        at969.then(y -> y.days(30)).answers(999, y -> y.rule(2));
        Bench at970 = x.then(y -> y.days(10));
        at970.asks(FULL, y -> y.days(30));
        at970.then(y -> y.days(29)).answers(999, y -> y.rule(2));
        Bench at999 = at970.then(y -> y.days(29));
        at999.asks(20, y -> y.days(0));
        at999.asks(FULL, y -> y.days(1));
        at999.asks(FULL, y -> y.days(30));
        at999.asks(BAD, y -> y.days(31));
        at999.asks(BAD, y -> y.days(-1));
        at999.asks(BAD, y -> y.days(HIGH));
    }

    // "A DAY: DAY is 1 more; CRIME is 1 more for each CASE that can be heard on the new DAY and is unheard (99 at most)."

    public void p16CrimeByCasesOfTheNewDay() {
        Bench x = Bench.told("plain 9 9;gaol 1 1 0;fine 1 1 1;lash 1 1 2;stocks 1 1 3;gaol 1 1 20;");
        x.answers(22, y -> y.days(1));
        x.answers(25, y -> y.days(2));
        x.answers(29, y -> y.days(3));
        x.answers(33, y -> y.days(4));
        x.answers(93, y -> y.days(19));
        x.answers(98, y -> y.days(20));
    }

    public void p16NotByWhatIsHeard() {
        Bench x = Bench.told("plain 9 9;gaol 1 1 0;fine 1 1 0;").then(y -> y.give(1, 0, 1));
        x.answers(21, y -> y.days(1));
        x.then(y -> y.give(0, 0, 1)).answers(20, y -> y.days(30));
        x.then(y -> y.appeal(1)).answers(22, y -> y.days(1));
    }

    public void p16WhoeverIsThere() {
        // nobody need be able to hear it
        Bench.told("fine 1 1 0;").answers(23, x -> x.days(3));
        Bench.told("plain 1 0;lash 60 60 0;").answers(23, x -> x.days(3));
    }

    public void p16CrimeIs99AtMost() {
        Bench x = Bench.told("gaol 1 1 0;gaol 1 1 0;crime 96;");
        x.answers(98, y -> y.days(1));
        x.answers(99, y -> y.days(2));
        x.answers(99, y -> y.days(3));
        x.answers(99, y -> y.days(30));
        Bench.told("gaol 1 1 0;crime 98;").answers(99, y -> y.days(1));
        Bench.told("gaol 1 1 0;crime 99;").answers(99, y -> y.days(1));
    }
}
