/** The bounds that the document names for dockets and for what is best: promises 17 to 23. */
public final class DocketEdges extends Tests {
    private static final String FOUR_FINES = "fine 10 10 0;fine 20 20 0;fine 30 30 0;fine 40 40 0;";

    private static Bench busy() {
        return Bench.told("old 3 2;young 9 1;hermit 9 9;fine 30 60 0;lash 50 60 0;gaol 40 40 1;stocks 10 20 9;"
            + "gaol 1 60 0;crime 40;").then(x -> x.give(4, 2, 60)).then(x -> x.keep(1));
    }

    private static Bench lastDay(String text) {
        Bench x = Bench.told(text);
        for (int i = 0; i < 33; i++) {
            x = x.then(y -> y.days(30));
        }
        return x.then(y -> y.days(9));
    }

    // ---- promise 17: "By A DOCKET for n DAYS (0 to 30): .. BAD."

    public void p17NoDays() {
        int[] docket = {0, 28, 12, 21, 0, NONE};
        for (int i = 0; i < docket.length; i++) {
            int what = i;
            busy().asks(docket[what], x -> x.docket(0, what));
        }
    }

    /** By hand: busy() is one judge away until 6, two others on the bench. */
    public void p17OneDay() {
        // 0 hears the fine (2 of 2), 1 the lash (4 of 9), 2 is away; the gaol of day 1 waits
        int[] docket = {3, 28 - 6 - 10 + 1, 10, 17, 1, NONE};
        for (int i = 0; i < docket.length; i++) {
            int what = i;
            busy().asks(docket[what], x -> x.docket(1, what));
        }
    }

    public void p17ThirtyDays() {
        // day 1: 0 hears the gaol (2 days); day 9: 0 hears the stocks; all but 4 of 90 benches are idle
        int[] docket = {15, 13 - 8 + 1 - 2, 10, 17, 86, 10};
        for (int i = 0; i < docket.length; i++) {
            int what = i;
            busy().asks(docket[what], x -> x.docket(30, what));
        }
    }

    public void p17WrongNumbers() {
        for (int n : beyond(0, 30)) {
            busy().asks(BAD, x -> x.docket(n, 0));
            busy().asks(BAD, x -> x.docket(n, 5));
        }
        for (int what : beyond(0, 5)) {
            busy().asks(BAD, x -> x.docket(1, what));
            busy().asks(BAD, x -> x.docket(0, what));
        }
    }

    public void p17HeardInIt() {
        // what was heard ahead is not heard in it
        Bench x = Bench.told("plain 9 9;gaol 5 5 0;fine 5 5 0;").then(y -> y.give(1, 0, 5));
        x.asks(1, y -> y.docket(1, 0));
        x.then(y -> y.give(0, 0, 5)).asks(0, y -> y.docket(30, 0));
        Bench.told("plain 9 9;plain 9 9;plain 9 9;plain 9 9;gaol 1 1 0;gaol 1 1 0;gaol 1 1 0;gaol 1 1 0;gaol 1 1 0;")
            .asks(15, y -> y.docket(1, 0));
        Bench.told("plain 9 9;plain 9 9;plain 9 9;plain 9 9;gaol 1 1 0;gaol 1 1 0;gaol 1 1 0;gaol 1 1 0;gaol 1 1 0;")
            .asks(31, y -> y.docket(2, 0));
    }

    public void p17OneCaseADay() {
        // "on each DAY JUDGES by order, each hears the first CASE (by order) that he can then"
        Bench x = Bench.told("plain 9 9;fine 5 5 0;fine 5 5 0;fine 5 5 0;");
        x.asks(1, y -> y.docket(1, 0));
        x.asks(3, y -> y.docket(2, 0));
        x.asks(7, y -> y.docket(3, 0));
        Bench.told("plain 1 1;lash 1 1 0;fine 20 20 0;gaol 1 1 1;fine 1 1 0;").asks(8, y -> y.docket(1, 0));
        Bench.told("plain 1 1;lash 1 1 0;fine 20 20 0;gaol 1 1 1;fine 1 1 0;").asks(12, y -> y.docket(2, 0));
    }

    public void p17FromTheDayThatIs() {
        Bench x = Bench.told("plain 9 9;gaol 5 5 3;");
        x.asks(0, y -> y.docket(3, 0));
        x.asks(1, y -> y.docket(4, 0));
        x.then(y -> y.days(2)).asks(0, y -> y.docket(1, 0));
        x.then(y -> y.days(2)).asks(1, y -> y.docket(2, 0));
        x.then(y -> y.days(3)).asks(1, y -> y.docket(1, 0));
    }

    public void p17ToTheirLeast() {
        Bench x = Bench.told("plain 9 9;fine 31 60 0;crime 50;");
        x.asks(44, y -> y.docket(1, 1));
        x.asks(5, y -> y.docket(1, 2));
        Bench lash = Bench.told("plain 9 9;lash 31 60 0;crime 50;");
        lash.asks(44, y -> y.docket(1, 1));
        lash.asks(5, y -> y.docket(1, 3));
    }

    public void p17CrimeInItsBounds() {
        Bench x = Bench.told("plain 9 9;fine 50 60 0;fine 5 5 0;gaol 1 1 0;crime 3;");
        // 0 at the least, then 1 more for each of two, of one
        x.asks(2, y -> y.docket(1, 1));
        x.asks(2, y -> y.docket(2, 1));
        x.asks(2, y -> y.docket(3, 1));
        Bench.told("gaol 1 1 0;gaol 1 1 0;crime 98;").asks(99, y -> y.docket(1, 1));
        Bench.told("gaol 1 1 0;gaol 1 1 0;crime 98;").asks(99, y -> y.docket(30, 1));
        Bench.told("plain 9 9;gaol 10 10 1;gaol 1 1 0;gaol 1 1 0;crime 98;").asks(99, y -> y.docket(1, 1));
    }

    public void p17IdleOrAway() {
        // gaol of 6 days: he is away on five of them
        Bench x = Bench.told("plain 9 9;old 9 9;gaol 60 60 0;");
        x.asks(0, y -> y.docket(0, 4));
        x.asks(1, y -> y.docket(1, 4));
        x.asks(59, y -> y.docket(30, 4));
        Bench.told("gaol 60 60 0;").asks(0, y -> y.docket(30, 4));
        Bench.told("plain 9 9;plain 9 9;plain 9 9;plain 9 9;").asks(120, y -> y.docket(30, 4));
    }

    // "behind how many of these DAYS (0 to n) first nobody is AWAY and all CASES are heard (5; NONE)"

    public void p17FirstAllAreHeardNobodyIsAway() {
        Bench x = Bench.told("plain 9 9;gaol 20 20 0;");
        x.asks(NONE, y -> y.docket(0, 5));
        x.asks(NONE, y -> y.docket(1, 5));
        x.asks(2, y -> y.docket(2, 5));
        x.asks(2, y -> y.docket(3, 5));
        x.asks(2, y -> y.docket(30, 5));
        Bench given = x.then(y -> y.give(0, 0, 20));
        given.asks(NONE, y -> y.docket(0, 5));
        given.asks(NONE, y -> y.docket(1, 5));
        given.asks(2, y -> y.docket(2, 5));
        given.then(y -> y.days(2)).asks(0, y -> y.docket(0, 5));
        given.then(y -> y.days(2)).asks(0, y -> y.docket(30, 5));
    }

    public void p17AllHeardAtTheVeryEnd() {
        Bench x = Bench.told("plain 9 9;fine 1 1 20;");
        Bench d = x.then(y -> y.days(0));
        d.asks(NONE, y -> y.docket(20, 5));
        d.asks(21, y -> y.docket(21, 5));
        d.asks(21, y -> y.docket(30, 5));
        Bench.told("fine 1 1 0;").asks(NONE, y -> y.docket(30, 5));
        Bench.told("plain 9 9;").asks(0, y -> y.docket(30, 5));
    }

    public void p17BeyondTheLastDay() {
        Bench x = lastDay("plain 9 9;gaol 60 60 0;fine 10 10 0;crime 5;").then(y -> y.crime(50));
        x.asks(3, y -> y.docket(30, 0));
        x.asks(7, y -> y.docket(30, 5));
        x.asks(50 - 12 + 6 - 2, y -> y.docket(30, 1));
    }

    // ---- promise 18: "who hears a CASE. BAD; NONE: nobody in it (also if it is heard)."

    public void p18Who() {
        int[][] days = {{0, NONE, NONE, NONE, NONE}, {1, 0, 1, NONE, NONE}, {2, 0, 1, 0, NONE}, {9, 0, 1, 0, NONE},
            {10, 0, 1, 0, 0}, {30, 0, 1, 0, 0}};
        for (int[] d : days) {
            for (int i = 0; i < 4; i++) {
                int c = i;
                busy().asks(d[1 + c], x -> x.hears(c, d[0]));
            }
        }
    }

    public void p18WhatIsHeard() {
        busy().asks(NONE, x -> x.hears(4, 0));
        busy().asks(NONE, x -> x.hears(4, 30));
        busy().then(x -> x.appeal(4)).asks(2, x -> x.hears(4, 30));
    }

    public void p18WrongNumbers() {
        for (int c : beyond(0, 4)) {
            busy().asks(BAD, x -> x.hears(c, 1));
        }
        for (int n : beyond(0, 30)) {
            busy().asks(BAD, x -> x.hears(0, n));
            // BAD ahead of NONE
            busy().asks(BAD, x -> x.hears(4, n));
        }
        Bench.told("gaol 1 1 0;").asks(NONE, x -> x.hears(0, 30));
        Bench.told("plain 1 1;").asks(BAD, x -> x.hears(0, 30));
    }

    public void p18TheLastJudge() {
        Bench.told("plain 1 0;plain 1 0;plain 1 0;plain 1 1;fine 1 1 0;").asks(3, x -> x.hears(0, 1));
        lastDay("plain 9 9;gaol 60 60 0;fine 10 10 0;").asks(0, x -> x.hears(1, 30));
    }

    // ---- promise 19: "Which unheard CASE each JUDGE is to hear today to its LEAST, or none, each CASE by one, so that
    // most are heard, of several CRIME is least, then the first by JUDGES (CASES by order ahead of none)"

    private static void best(Bench bench, int heard, int crime, int... suits) {
        bench.asks(heard, x -> x.best(0));
        bench.asks(crime, x -> x.best(1));
        for (int i = 0; i < suits.length; i++) {
            int j = i;
            bench.asks(suits[j], x -> x.best(10 + j));
        }
        bench.asks(BAD, x -> x.best(10 + suits.length));
    }

    public void p19WrongNumbers() {
        for (int what : new int[] {-1, 2, 9, 13, 14, LOW, LOW + 10, HIGH}) {
            busy().asks(BAD, x -> x.best(what));
        }
        Bench four = Bench.told("plain 9 9;plain 9 9;plain 9 9;plain 9 9;gaol 1 1 0;");
        four.asks(NONE, x -> x.best(13));
        four.asks(BAD, x -> x.best(14));
        Bench.told("gaol 1 1 0;").asks(BAD, x -> x.best(10));
    }

    public void p19NobodyNothing() {
        best(Bench.nobody(), 0, 20);
        best(Bench.told("gaol 1 1 0;crime 7;"), 0, 7);
        best(Bench.told("plain 9 9;old 9 9;crime 7;"), 0, 7, NONE, NONE);
    }

    public void p19EachCaseByOne() {
        best(Bench.told("plain 9 9;plain 9 9;gaol 10 60 0;"), 1, 18, 0, NONE);
        best(Bench.told("plain 9 9;gaol 10 60 0;gaol 10 10 0;"), 1, 18, 0);
    }

    public void p19OfSeveralCrimeIsLeast() {
        best(Bench.told("plain 9 9;gaol 5 60 0;gaol 10 10 0;"), 1, 18, 1);
        best(Bench.told("plain 9 9;gaol 10 10 0;gaol 5 60 0;"), 1, 18, 0);
        // 5 and 9 are the same CRIME less
        best(Bench.told("plain 9 9;gaol 5 60 0;gaol 9 9 0;"), 1, 19, 0);
        // CRIME is 0 at least
        best(Bench.told("plain 9 9;gaol 5 60 0;gaol 60 60 0;crime 1;"), 1, 0, 0);
        best(Bench.told("plain 9 9;gaol 5 60 0;gaol 60 60 0;crime 0;"), 1, 0, 0);
        best(Bench.told("plain 9 9;gaol 5 60 0;gaol 10 60 0;gaol 60 60 0;crime 2;"), 1, 0, 1);
        best(Bench.told("plain 9 9;plain 9 9;gaol 5 60 0;gaol 5 60 0;gaol 60 60 0;crime 1;"), 2, 0, 0, 1);
    }

    public void p19MostAheadOfCrime() {
        // the rich one alone can hear the second: it is the first case that has to be left to the poor one
        best(Bench.told("plain 9 9;plain 9 1;fine 10 10 0;fine 60 60 0;gaol 1 1 5;"), 2, 6, 1, 0);
        best(Bench.told("plain 9 6;plain 9 0;fine 60 60 0;gaol 5 5 0;crime 50;"), 2, 37, 0, 1);
        best(Bench.told("plain 9 0;plain 9 6;gaol 5 5 0;fine 10 10 0;crime 50;"), 2, 47, 0, 1);
    }

    public void p19FirstByJudges() {
        best(Bench.told("plain 9 9;plain 9 9;plain 9 9;gaol 10 60 0;gaol 10 10 0;"), 2, 16, 0, 1, NONE);
        best(Bench.told("plain 9 9;plain 9 0;fine 10 10 0;fine 10 10 0;gaol 10 10 0;"), 2, 16, 0, 2);
        best(Bench.told("plain 9 0;plain 9 0;plain 9 9;fine 10 10 0;"), 1, 18, NONE, NONE, 0);
        best(Bench.told("plain 9 9;plain 9 9;plain 9 9;plain 9 9;gaol 1 1 0;gaol 1 1 0;gaol 1 1 0;gaol 1 1 0;gaol 1 1 0;"),
            4, 20, 0, 1, 2, 3);
    }

    public void p19OnlyWhoCanToday() {
        Bench x = Bench.told("plain 9 9;old 9 9;gaol 20 60 0;gaol 10 60 0;gaol 10 60 1;crime 50;");
        best(x, 2, 44, 0, 1);
        best(x.then(y -> y.give(0, 0, 20)), 1, 44, NONE, 1);
        best(x.then(y -> y.give(0, 0, 20)).then(y -> y.days(1)), 1, 46, NONE, 1);
        best(x.then(y -> y.give(0, 0, 20)).then(y -> y.days(2)), 2, 46, 1, 2);
    }

    // ---- promise 20: "The least SENTENCE of a CASE by which CRIME is v or less at once (0 to 99), whoever hears it
    // (nobody need be able to). BAD; STATE: it is heard; NONE: by none in its bounds."

    public void p20InItsBounds() {
        Bench x = Bench.told("gaol 12 32 20;crime 30;");
        int[][] vs = {{99, 12}, {30, 12}, {29, 12}, {28, 12}, {27, 15}, {26, 20}, {25, 25}, {24, 30}, {23, NONE},
            {1, NONE}, {0, NONE}};
        for (int[] v : vs) {
            x.asks(v[1], y -> y.deter(0, v[0]));
        }
    }

    public void p20LeastAndMostItself() {
        Bench x = Bench.told("fine 11 15 0;gaol 1 60 0;stocks 60 60 0;lash 1 1 0;crime 12;");
        x.asks(11, y -> y.deter(0, 10));
        x.asks(15, y -> y.deter(0, 9));
        x.asks(NONE, y -> y.deter(0, 8));
        x.asks(1, y -> y.deter(1, 12));
        x.asks(5, y -> y.deter(1, 11));
        x.asks(60, y -> y.deter(1, 0));
        x.asks(60, y -> y.deter(2, 99));
        x.asks(60, y -> y.deter(2, 0));
        x.asks(1, y -> y.deter(3, 12));
        x.asks(NONE, y -> y.deter(3, 11));
    }

    public void p20CrimeIs0AtLeast() {
        Bench.told("gaol 7 60 0;crime 0;").asks(7, x -> x.deter(0, 0));
        Bench.told("gaol 7 60 0;crime 1;").asks(7, x -> x.deter(0, 0));
        Bench.told("gaol 7 60 0;crime 2;").asks(10, x -> x.deter(0, 0));
        Bench.told("gaol 7 60 0;crime 99;").asks(60, x -> x.deter(0, 87));
        Bench.told("gaol 7 60 0;crime 99;").asks(NONE, x -> x.deter(0, 86));
    }

    public void p20Refused() {
        Bench x = Bench.told("plain 9 9;gaol 1 9 0;gaol 1 1 0;crime 50;").then(y -> y.give(0, 0, 9));
        for (int c : beyond(0, 1)) {
            x.asks(BAD, y -> y.deter(c, 50));
        }
        for (int v : beyond(0, 99)) {
            x.asks(BAD, y -> y.deter(1, v));
            x.asks(BAD, y -> y.deter(0, v));
        }
        x.asks(STATE, y -> y.deter(0, 99));
        // STATE ahead of NONE
        x.asks(STATE, y -> y.deter(0, 0));
        x.asks(NONE, y -> y.deter(1, 0));
        x.then(y -> y.appeal(0)).asks(5, y -> y.deter(0, 49));
    }

    // ---- promise 21: "The order of JUDGES for A DOCKET of n DAYS (0 to 30) by which most CASES are heard, of several
    // the first by numbers: how many (what 0); 10 and i (0 to 3): who is i-th (from 0; NONE: not so many). BAD."

    private static void order(Bench bench, int n, int heard, int... judges) {
        bench.asks(heard, x -> x.order(n, 0));
        for (int i = 0; i < 4; i++) {
            int place = i;
            bench.asks(place < judges.length ? judges[place] : NONE, x -> x.order(n, 10 + place));
        }
    }

    public void p21AnyNumberOfJudges() {
        order(Bench.told("gaol 1 1 0;"), 30, 0);
        order(Bench.told("plain 9 9;gaol 1 1 0;"), 1, 1, 0);
        order(Bench.told("plain 9 9;plain 9 9;"), 1, 0, 0, 1);
        order(Bench.told("plain 9 9;plain 9 9;plain 9 9;gaol 1 1 0;"), 1, 1, 0, 1, 2);
        order(Bench.told("plain 9 9;plain 9 9;plain 9 9;plain 9 9;gaol 1 1 0;gaol 1 1 0;"), 1, 2, 0, 1, 2, 3);
    }

    public void p21TheLastOfAllOrders() {
        // each bears one fine more than the next: only from the poorest on are all heard
        Bench x = Bench.told("plain 9 9;plain 9 3;plain 9 2;plain 9 1;" + FOUR_FINES);
        order(x, 1, 4, 3, 2, 1, 0);
        order(x, 0, 0, 0, 1, 2, 3);
        order(Bench.told("plain 9 1;plain 9 2;plain 9 3;plain 9 9;" + FOUR_FINES), 1, 4, 0, 1, 2, 3);
        order(Bench.told("plain 9 2;plain 9 9;plain 9 1;plain 9 3;" + FOUR_FINES), 1, 4, 2, 0, 3, 1);
    }

    public void p21OfSeveralTheFirst() {
        // 1 has to be ahead of 0; the third hears nothing, wherever he is
        Bench x = Bench.told("plain 9 2;plain 9 1;plain 9 0;fine 10 10 0;fine 20 20 0;");
        order(x, 1, 2, 1, 0, 2);
        Bench y = Bench.told("plain 9 0;plain 9 2;plain 9 1;fine 10 10 0;fine 20 20 0;");
        order(y, 1, 2, 0, 2, 1);
    }

    public void p21DaysTell() {
        // on the second day he can hear what is left: then the first of all orders will do
        Bench x = Bench.told("plain 9 9;plain 9 1;fine 10 10 0;fine 20 20 0;");
        order(x, 1, 2, 1, 0);
        order(x, 2, 2, 0, 1);
        order(x, 30, 2, 0, 1);
        order(lastDay("plain 9 9;plain 9 1;fine 10 10 0;fine 20 20 0;"), 1, 2, 1, 0);
    }

    public void p21HeardInIt() {
        Bench x = Bench.told("plain 9 9;plain 9 9;fine 10 10 0;fine 10 10 0;fine 10 10 0;");
        order(x.then(y -> y.give(0, 0, 10)), 30, 2, 0, 1);
        order(x.then(y -> y.give(0, 0, 10)).then(y -> y.give(1, 0, 10)).then(y -> y.give(2, 0, 10)), 30, 0, 0, 1);
    }

    public void p21WrongNumbers() {
        for (int n : beyond(0, 30)) {
            busy().asks(BAD, x -> x.order(n, 0));
            // BAD ahead of NONE
            busy().asks(BAD, x -> x.order(n, 13));
        }
        for (int what : new int[] {-1, 1, 2, 9, 14, LOW, LOW + 10, HIGH}) {
            busy().asks(BAD, x -> x.order(1, what));
            Bench.nobody().asks(BAD, x -> x.order(1, what));
        }
        busy().asks(NONE, x -> x.order(1, 13));
    }

    // ---- promise 22: "The JUDGE without whom as many CASES are heard by A DOCKET for n DAYS (0 to 30) as with all, of
    // several the last. BAD; NONE: there is none."

    public void p22OfSeveralTheLast() {
        Bench x = Bench.told("plain 9 9;plain 9 9;plain 9 9;plain 9 9;fine 1 1 0;fine 1 1 0;");
        x.asks(3, y -> y.spare(0));
        x.asks(3, y -> y.spare(1));
        x.asks(3, y -> y.spare(30));
    }

    public void p22TheFirstAlone() {
        // the first can hear nothing, the others each one
        Bench x = Bench.told("plain 9 0;plain 9 1;plain 9 1;plain 9 1;fine 1 1 0;fine 1 1 0;fine 1 1 0;");
        x.asks(0, y -> y.spare(1));
        x.asks(0, y -> y.spare(30));
        Bench y = Bench.told("plain 9 1;plain 9 0;plain 9 1;fine 1 1 0;fine 1 1 0;");
        y.asks(1, z -> z.spare(1));
    }

    public void p22NobodyIs() {
        Bench x = Bench.told("plain 9 9;plain 9 9;fine 1 1 0;fine 1 1 0;");
        x.asks(NONE, y -> y.spare(1));
        x.asks(1, y -> y.spare(2));
        Bench.told("plain 9 9;fine 1 1 0;").asks(NONE, y -> y.spare(1));
        Bench.told("plain 9 9;fine 1 1 0;").asks(0, y -> y.spare(0));
        Bench.told("plain 9 9;fine 1 1 1;").asks(0, y -> y.spare(1));
        Bench.told("plain 9 9;fine 1 1 1;").asks(NONE, y -> y.spare(2));
        Bench.told("fine 1 1 0;").asks(NONE, y -> y.spare(0));
        Bench.nobody().asks(NONE, y -> y.spare(30));
    }

    public void p22WrongNumbers() {
        for (int n : beyond(0, 30)) {
            busy().asks(BAD, x -> x.spare(n));
            // BAD ahead of NONE
            Bench.nobody().asks(BAD, x -> x.spare(n));
        }
    }

    // ---- promise 23: "Unheard CASES that no JUDGE can bear to hear to LEAST, DAYS, who is AWAY aside (bits)."

    public void p23WhatIsBorne() {
        for (int kind = 0; kind < 4; kind++) {
            int t = tenth(kind, 41);
            String cases = "fine 41 60 20;lash 41 60 20;gaol 60 60 20;stocks 60 60 20;fine 1 60 20;";
            String who = KINDS[kind] + " ";
            Bench.told(who + (t + 1) + " " + t + ";" + cases).asks(0, x -> x.hopeless());
            Bench.told(who + t + " " + t + ";" + cases).asks(2, x -> x.hopeless());
            Bench.told(who + (t + 1) + " " + (t - 1) + ";" + cases).asks(1, x -> x.hopeless());
            Bench.told(who + t + " " + (t - 1) + ";" + cases).asks(3, x -> x.hopeless());
        }
    }

    public void p23AnyJudge() {
        Bench.told("plain 1 0;plain 1 0;plain 1 0;plain 9 9;fine 60 60 0;lash 60 60 0;").asks(0, x -> x.hopeless());
        Bench.told("plain 1 9;plain 9 0;fine 60 60 0;lash 60 60 0;").asks(0, x -> x.hopeless());
        Bench.told("plain 1 0;plain 1 0;fine 60 60 0;lash 60 60 0;").asks(3, x -> x.hopeless());
    }

    public void p23NobodyNothing() {
        Bench.nobody().asks(0, x -> x.hopeless());
        Bench.told("plain 1 0;").asks(0, x -> x.hopeless());
        Bench.told("gaol 1 1 0;fine 1 1 0;lash 1 1 0;stocks 1 1 0;gaol 1 1 20;").asks(31, x -> x.hopeless());
    }

    public void p23UnheardAlone() {
        Bench x = Bench.told("plain 9 6;fine 60 60 0;fine 1 1 0;").then(y -> y.give(0, 0, 60));
        x.asks(2, y -> y.hopeless());
        x.then(y -> y.alter(0, 2, 5)).asks(0, y -> y.hopeless());
        x.then(y -> y.appeal(0)).asks(0, y -> y.hopeless());
    }

    public void p23AwayAside() {
        Bench x = Bench.told("plain 9 6;gaol 60 60 0;fine 60 60 0;lash 60 60 20;").then(y -> y.give(0, 0, 60));
        x.asks(0, y -> y.hopeless());
        x.then(y -> y.alter(0, 1, 6)).asks(4, y -> y.hopeless());
    }
}
