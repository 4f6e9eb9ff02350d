/** The bounds that the document names for guilt by odds, for what is seen, and for a seed: promises 24 to 31. */
public final class OddsAndScarsEdges extends Tests {
    private static final String FIVE = "fine 5 5 0;fine 5 5 0;fine 5 5 0;fine 5 5 0;fine 5 5 0;";

    /** Five cases that are heard, each of which makes CRIME 1 more, from 0 on. */
    private static Bench fiveHeard() {
        Bench x = Bench.told("plain 20 99;" + FIVE + "crime 5;");
        for (int i = 0; i < 5; i++) {
            int c = i;
            x = x.then(y -> y.give(c, 0, 5));
        }
        return x;
    }

    /** Two cases of three are heard: CRIME is 13, and more by 5, by 2. */
    private static Bench twoHeard() {
        return Bench.told("plain 9 4;old 9 4;gaol 29 29 0;fine 14 14 0;gaol 9 9 0;").then(x -> x.give(0, 0, 29))
            .then(x -> x.give(1, 1, 14));
    }

    private static void mean(Bench bench, int v, int numerator, int denominator) {
        bench.asks(numerator, x -> x.mean(v, 0));
        bench.asks(denominator, x -> x.mean(v, 1));
    }

    private static void luck(Bench bench, int v, int w, int numerator, int denominator) {
        bench.asks(numerator, x -> x.luck(v, w, 0));
        bench.asks(denominator, x -> x.luck(v, w, 1));
    }

    // ---- promise 24: "Each CASE that is heard was wrong by v out of ten (0 to 10), by itself (it is appealed then, the
    // first by order first): the mean of CRIME then: 0, 1. BAD."

    public void p24Bounds() {
        for (int v : beyond(0, 10)) {
            twoHeard().asks(BAD, x -> x.mean(v, 0));
            twoHeard().asks(BAD, x -> x.mean(v, 1));
            Bench.nobody().asks(BAD, x -> x.mean(v, 0));
        }
        for (int what : beyond(0, 1)) {
            twoHeard().asks(BAD, x -> x.mean(5, what));
            Bench.nobody().asks(BAD, x -> x.mean(0, what));
        }
    }

    public void p24NoneOfThemAllOfThem() {
        mean(twoHeard(), 0, 13, 1);
        mean(twoHeard(), 10, 20, 1);
        mean(fiveHeard(), 0, 0, 1);
        mean(fiveHeard(), 10, 5, 1);
    }

    // "Fractions are in lowest terms, told as 0 the numerator, 1 the denominator, which is above 0 (0 is 0 by 1)."

    public void p24LowestTerms() {
        int[][] means = {{1, 1, 2}, {2, 1, 1}, {3, 3, 2}, {4, 2, 1}, {5, 5, 2}, {6, 3, 1}, {7, 7, 2}, {8, 4, 1}, {9, 9, 2}};
        for (int[] m : means) {
            mean(fiveHeard(), m[0], m[1], m[2]);
        }
        mean(twoHeard(), 1, 137, 10);
        mean(twoHeard(), 2, 72, 5);
        mean(twoHeard(), 3, 151, 10);
        mean(twoHeard(), 5, 33, 2);
    }

    public void p24NothingIsHeard() {
        for (int v : new int[] {0, 3, 10}) {
            mean(Bench.nobody(), v, 20, 1);
            mean(Bench.told("gaol 60 60 0;crime 7;"), v, 7, 1);
            mean(Bench.told("gaol 60 60 0;crime 0;"), v, 0, 1);
        }
    }

    public void p24CrimeIs99AtMost() {
        // 98 by 1 of 32, else 99
        mean(fiveHeard().then(x -> x.crime(98)), 5, 3167, 32);
        mean(fiveHeard().then(x -> x.crime(98)), 10, 99, 1);
        mean(fiveHeard().then(x -> x.crime(99)), 7, 99, 1);
        // 95, 97, 99, 99
        mean(twoHeard().then(x -> x.crime(95)), 5, 195, 2);
        mean(fiveHeard().then(x -> x.crime(94)), 10, 99, 1);
        mean(fiveHeard().then(x -> x.crime(94)), 5, 193, 2);
    }

    public void p24SentencesByFiveDown() {
        Bench x = Bench.told("plain 20 99;fine 4 4 0;fine 9 9 0;fine 60 60 0;crime 50;").then(y -> y.give(0, 0, 4))
            .then(y -> y.give(1, 0, 9)).then(y -> y.give(2, 0, 60)).then(y -> y.crime(10));
        mean(x, 10, 23, 1);
        mean(x, 1, 113, 10);
    }

    public void p24NotOfWhatIsAppealed() {
        Bench x = twoHeard().then(y -> y.appeal(0));
        mean(x, 10, 20, 1);
        mean(x, 1, 91, 5);
    }

    // ---- promise 25: "Likewise, that CRIME is w (0 to 99) or less then: 0, 1. BAD."

    public void p25Bounds() {
        for (int v : beyond(0, 10)) {
            twoHeard().asks(BAD, x -> x.luck(v, 50, 0));
            Bench.nobody().asks(BAD, x -> x.luck(v, 50, 1));
        }
        for (int w : beyond(0, 99)) {
            twoHeard().asks(BAD, x -> x.luck(5, w, 0));
            Bench.nobody().asks(BAD, x -> x.luck(5, w, 1));
        }
        for (int what : beyond(0, 1)) {
            twoHeard().asks(BAD, x -> x.luck(5, 50, what));
        }
    }

    public void p25FarthestNumbers() {
        luck(fiveHeard(), 0, 0, 1, 1);
        luck(fiveHeard(), 0, 99, 1, 1);
        luck(fiveHeard(), 10, 0, 0, 1);
        luck(fiveHeard(), 10, 99, 1, 1);
        luck(fiveHeard(), 10, 4, 0, 1);
        luck(fiveHeard(), 10, 5, 1, 1);
    }

    public void p25LowestTerms() {
        luck(fiveHeard(), 1, 0, 59049, 100000);
        luck(fiveHeard(), 1, 1, 45927, 50000);
        luck(fiveHeard(), 1, 4, 99999, 100000);
        luck(fiveHeard(), 1, 5, 1, 1);
        luck(fiveHeard(), 9, 0, 1, 100000);
        luck(fiveHeard(), 5, 0, 1, 32);
        luck(fiveHeard(), 5, 1, 3, 16);
        luck(fiveHeard(), 5, 2, 1, 2);
    }

    public void p25WOrLess() {
        // 13, 15, 18, 20 at 49, 21, 21, 9 of a hundred
        int[][] lucks = {{12, 0, 1}, {13, 49, 100}, {14, 49, 100}, {15, 7, 10}, {17, 7, 10}, {18, 91, 100},
            {19, 91, 100}, {20, 1, 1}, {99, 1, 1}, {0, 0, 1}};
        for (int[] l : lucks) {
            luck(twoHeard(), 3, l[0], l[1], l[2]);
        }
    }

    public void p25NothingIsHeard() {
        luck(Bench.nobody(), 4, 20, 1, 1);
        luck(Bench.nobody(), 4, 19, 0, 1);
        luck(Bench.told("gaol 60 60 0;crime 0;"), 10, 0, 1, 1);
    }

    public void p25CrimeIs99AtMost() {
        Bench x = fiveHeard().then(y -> y.crime(98));
        luck(x, 5, 97, 0, 1);
        luck(x, 5, 98, 1, 32);
        luck(x, 5, 99, 1, 1);
        luck(x, 10, 98, 0, 1);
        luck(x, 10, 99, 1, 1);
    }

    // ---- promise 26: "SEEN: a JUDGE had t (0 to 60) of A TENTH of a CASE: how many are. BAD; FULL."; "SEEN (6)"

    private static Bench seen(int many) {
        Bench x = Bench.told("plain 9 4;old 9 4;gaol 1 60 0;fine 14 14 5;");
        for (int i = 1; i <= many; i++) {
            int had = i;
            x = x.then(had, y -> y.see(1, 0, 2));
        }
        return x;
    }

    public void p26SixAreSeen() {
        seen(6).asks(6, x -> x.count(0));
        seen(6).asks(FULL, x -> x.see(0, 0, 1));
        seen(6).asks(FULL, x -> x.see(1, 0, 2));
        seen(5).answers(6, x -> x.see(0, 0, 1));
        seen(0).answers(1, x -> x.see(0, 0, 1));
    }

    public void p26Bounds() {
        for (int t : new int[] {0, 60}) {
            seen(0).answers(1, x -> x.see(0, 0, t));
            seen(0).answers(1, x -> x.see(1, 1, t));
        }
        for (int t : beyond(0, 60)) {
            seen(2).asks(BAD, x -> x.see(0, 0, t));
        }
        for (int i : beyond(0, 1)) {
            seen(2).asks(BAD, x -> x.see(i, 0, 1));
            seen(2).asks(BAD, x -> x.see(0, i, 1));
        }
    }

    public void p26BadAheadOfFull() {
        seen(6).asks(BAD, x -> x.see(0, 0, 61));
        seen(6).asks(BAD, x -> x.see(2, 0, 1));
        seen(6).asks(BAD, x -> x.see(0, 2, 1));
    }

    public void p26WhateverWasGiven() {
        // of a case that nobody heard, that can not be heard yet
        seen(0).then(x -> x.see(0, 1, 1)).asks(6, x -> x.kinds(0));
    }

    // ---- promise 27: "SEEN are the first n alone: how many there were. BAD (n above that, too)."

    public void p27AllTheFirstNone() {
        seen(6).asks(6, x -> x.forget(6));
        seen(0).asks(0, x -> x.forget(0));
        seen(6).then(6, x -> x.forget(5)).answers(5, x -> x.count(0));
        seen(6).then(6, x -> x.forget(0)).answers(0, x -> x.count(0));
        seen(6).then(6, x -> x.forget(5)).answers(6, x -> x.see(0, 0, 0));
    }

    public void p27TheFirstAreKept() {
        // of the old one: 2 (all but none), 4 (not old), 0 (nobody)
        Bench x = Bench.told("plain 9 4;old 9 4;gaol 1 60 0;").then(y -> y.see(1, 0, 2)).then(y -> y.see(1, 0, 4))
            .then(y -> y.see(1, 0, 0));
        x.asks(0, y -> y.kinds(1));
        x.then(3, y -> y.forget(2)).asks(11, y -> y.kinds(1));
        x.then(3, y -> y.forget(1)).asks(15, y -> y.kinds(1));
        x.then(3, y -> y.forget(1)).then(2, y -> y.see(1, 0, 3)).asks(7, y -> y.kinds(1));
    }

    public void p27WrongNumbers() {
        for (int n : beyond(0, 3)) {
            seen(3).asks(BAD, x -> x.forget(n));
        }
        for (int n : beyond(0, 6)) {
            seen(6).asks(BAD, x -> x.forget(n));
        }
        for (int n : beyond(0, 0)) {
            seen(0).asks(BAD, x -> x.forget(n));
        }
    }

    // ---- promise 28: "KINDS of a JUDGE (bits) by each of which all that is SEEN of him could be (each of some SENTENCE
    // in bounds). BAD."

    public void p28OfOneSentence() {
        for (int n : new int[] {1, 10, 11, 20, 21, 30, 31, 40, 41, 50, 51, 60}) {
            for (int i = 0; i <= 7; i++) {
                int t = i;
                int want = 0;
                for (int kind = 0; kind < 4; kind++) {
                    want |= tenth(kind, n) == t ? 1 << kind : 0;
                }
                Bench.told("old 9 9;gaol " + n + " " + n + " 9;").then(x -> x.see(0, 0, t)).asks(want, x -> x.kinds(0));
            }
        }
    }

    public void p28LeastAndMostAreInBounds() {
        // 1 by a plain one: of 10, not of 11; 2 by a plain one: of 11, not of 10; 2 by a hermit: of 20, not of 21
        kindsOf(10, 60, 1, 7);
        kindsOf(11, 60, 1, 6);
        kindsOf(1, 11, 2, 9);
        kindsOf(1, 10, 2, 8);
        kindsOf(20, 60, 2, 15);
        kindsOf(21, 60, 2, 6);
        kindsOf(1, 60, 6, 9);
        kindsOf(1, 50, 6, 8);
        kindsOf(1, 60, 7, 0);
        kindsOf(1, 60, 60, 0);
        kindsOf(1, 60, 0, 0);
    }

    private static void kindsOf(int least, int most, int t, int kinds) {
        Bench.told("plain 9 9;gaol " + least + " " + most + " 0;").then(x -> x.see(0, 0, t)).asks(kinds, x -> x.kinds(0));
    }

    public void p28NothingOfHimIsSeen() {
        seen(0).asks(15, x -> x.kinds(0));
        seen(6).asks(15, x -> x.kinds(0));
        Bench.told("plain 9 9;").asks(15, x -> x.kinds(0));
    }

    public void p28EachOfSomeSentence() {
        // of the same case, of two sentences
        Bench x = Bench.told("plain 9 9;gaol 1 60 0;").then(y -> y.see(0, 0, 5));
        x.asks(3, y -> y.kinds(0));
        x.then(y -> y.see(0, 0, 6)).asks(1, y -> y.kinds(0));
        x.then(y -> y.see(0, 0, 1)).asks(3, y -> y.kinds(0));
        x.then(y -> y.see(0, 0, 2)).then(y -> y.see(0, 0, 6)).then(y -> y.see(0, 0, 4)).asks(1, y -> y.kinds(0));
    }

    public void p28ByTheBoundsThatAre() {
        Bench x = Bench.told("plain 9 9;gaol 1 60 0;").then(y -> y.see(0, 0, 1));
        x.asks(7, y -> y.kinds(0));
        x.then(y -> y.amend(0, 1, 11)).asks(6, y -> y.kinds(0));
        x.then(y -> y.amend(0, 1, 21)).asks(0, y -> y.kinds(0));
    }

    public void p28WrongNumbers() {
        for (int j : beyond(0, 1)) {
            seen(3).asks(BAD, x -> x.kinds(j));
        }
        for (int j : beyond(0, 3)) {
            Bench.told("plain 1 1;plain 1 1;plain 1 1;plain 1 1;").asks(BAD, x -> x.kinds(j));
        }
    }

    // ---- promise 29: "SENTENCES of a CASE in its bounds by which, for each JUDGE of whom something of it is SEEN, there
    // is one of his kinds() by which all that is SEEN of him of it is so: how many (what 0), the least (1), the greatest
    // (2). BAD; NONE (1, 2): there are none."

    private static void terms(Bench bench, int c, int many, int least, int greatest) {
        bench.asks(many, x -> x.terms(c, 0));
        bench.asks(least, x -> x.terms(c, 1));
        bench.asks(greatest, x -> x.terms(c, 2));
    }

    public void p29NothingIsSeen() {
        terms(Bench.told("gaol 1 60 0;"), 0, 60, 1, 60);
        terms(Bench.told("plain 9 9;gaol 7 7 0;"), 0, 1, 7, 7);
        terms(Bench.told("plain 9 9;gaol 5 6 0;"), 0, 2, 5, 6);
    }

    public void p29NoneIsLeft() {
        Bench x = Bench.told("plain 9 9;gaol 1 60 0;gaol 9 30 0;");
        terms(x.then(y -> y.see(0, 0, 7)), 0, 0, NONE, NONE);
        terms(x.then(y -> y.see(0, 0, 0)), 0, 0, NONE, NONE);
        // two of one case are never of one sentence and one kind
        terms(x.then(y -> y.see(0, 0, 1)).then(y -> y.see(0, 0, 2)), 0, 0, NONE, NONE);
        // of the other nothing of his is SEEN, though no kind is left
        terms(x.then(y -> y.see(0, 0, 7)), 1, 22, 9, 30);
        terms(x.then(y -> y.see(0, 0, 7)).then(y -> y.see(0, 1, 1)), 1, 0, NONE, NONE);
    }

    public void p29InBounds() {
        // 4: plain of 31 to 40, young of 41 to 50, hermit of 21 to 40
        terms(Bench.told("plain 9 9;gaol 1 60 0;").then(x -> x.see(0, 0, 4)), 0, 30, 21, 50);
        terms(Bench.told("plain 9 9;gaol 22 49 0;").then(x -> x.see(0, 0, 4)), 0, 28, 22, 49);
        terms(Bench.told("plain 9 9;gaol 40 41 0;").then(x -> x.see(0, 0, 4)), 0, 2, 40, 41);
        // only hermits, only young ones are left by the bounds
        terms(Bench.told("plain 9 9;gaol 1 30 0;").then(x -> x.see(0, 0, 4)), 0, 10, 21, 30);
        terms(Bench.told("plain 9 9;gaol 41 60 0;").then(x -> x.see(0, 0, 4)), 0, 10, 41, 50);
        // 6: plain, hermit of 51 to 60, hermit of 41 to 50
        terms(Bench.told("plain 9 9;gaol 1 60 0;").then(x -> x.see(0, 0, 6)), 0, 20, 41, 60);
    }

    public void p29EachJudge() {
        // 0: plain of 31 to 40, young of 41 to 50, hermit of 21 to 40; 1: plain of 21 to 30, young of 31 to 40, old of
        // 41 to 60
        Bench x = Bench.told("plain 9 9;old 9 9;gaol 1 60 0;fine 60 60 0;").then(y -> y.see(0, 0, 4))
            .then(y -> y.see(1, 0, 3));
        terms(x, 0, 30, 21, 50);
        // 1 is old
        terms(x.then(y -> y.see(1, 1, 3)), 0, 10, 41, 50);
        // 0 is plain or a hermit: none is of both then
        terms(x.then(y -> y.see(1, 1, 3)).then(y -> y.see(0, 1, 6)), 0, 0, NONE, NONE);
        terms(x.then(y -> y.see(0, 1, 6)), 0, 20, 21, 40);
    }

    public void p29TheSameSeenTwice() {
        Bench x = Bench.told("plain 9 9;gaol 1 60 0;").then(y -> y.see(0, 0, 1)).then(y -> y.see(0, 0, 1));
        terms(x, 0, 20, 1, 20);
    }

    public void p29WrongNumbers() {
        for (int c : beyond(0, 1)) {
            seen(3).asks(BAD, x -> x.terms(c, 0));
            seen(3).asks(BAD, x -> x.terms(c, 1));
        }
        for (int what : beyond(0, 2)) {
            seen(3).asks(BAD, x -> x.terms(0, what));
            // BAD ahead of NONE
            seen(0).then(x -> x.see(0, 0, 0)).asks(BAD, x -> x.terms(0, what));
        }
    }

    // ---- promise 30: "The SENTENCE (1 to 60) of which to ask A TENTH of a JUDGE, so that of his KINDS (kinds()) fewest
    // are left at the worst, fewer than now, the least (what 0), how many these are (1). BAD; NONE: by none."

    public void p30OfEachSetOfKinds() {
        // least, most, what is seen, the kinds by it, what to ask, how many are left
        int[][] asked = {{1, 60, 2, 15, 41, 1}, {1, 10, 1, 7, 31, 1}, {1, 60, 4, 11, 21, 1}, {11, 20, 2, 9, 1, 1},
            {11, 20, 1, 6, 31, 1}, {41, 60, 5, 3, 11, 1}, {21, 30, 3, 1, NONE, NONE}, {31, 40, 3, 2, NONE, NONE},
            {31, 40, 2, 4, NONE, NONE}, {1, 10, 2, 8, NONE, NONE}, {1, 60, 0, 0, NONE, NONE}};
        for (int[] a : asked) {
            Bench x = Bench.told("old 9 9;gaol " + a[0] + " " + a[1] + " 0;").then(y -> y.see(0, 0, a[2]));
            x.asks(a[3], y -> y.kinds(0));
            x.asks(a[4], y -> y.ask(0, 0));
            x.asks(a[5], y -> y.ask(0, 1));
        }
    }

    public void p30NothingIsSeen() {
        Bench.told("plain 9 9;").asks(41, x -> x.ask(0, 0));
        Bench.told("plain 9 9;").asks(1, x -> x.ask(0, 1));
    }

    public void p30WrongNumbers() {
        for (int j : beyond(0, 1)) {
            seen(3).asks(BAD, x -> x.ask(j, 0));
            seen(3).asks(BAD, x -> x.ask(j, 1));
        }
        for (int what : beyond(0, 1)) {
            seen(3).asks(BAD, x -> x.ask(0, what));
            // BAD ahead of NONE
            seen(0).then(x -> x.see(0, 0, 0)).asks(BAD, x -> x.ask(0, what));
        }
    }

    // ---- promise 31: "n DAYS (1 to 60) by a seed .. CRIME in the end (what 0), CASES that are heard then (1; bits).
    // BAD; STATE: there are no JUDGES or no CASES."

    private static Bench adrift() {
        return Bench.told("plain 9 9;old 9 9;young 9 9;gaol 5 5 0;fine 20 30 0;gaol 25 30 0;stocks 1 1 0;"
            + "lash 60 60 2;crime 40;");
    }

    /** The seed times 1103515245 and 12345 wraps around: numbers reckoned by another program. */
    public void p31SeedsWrapAround() {
        int[][] drifts = {{0, 1, 42, 1}, {0, 2, 45, 9}, {0, 5, 47, 13}, {0, 9, 49, 15}, {0, 60, 40, 31},
            {1, 1, 43, 8}, {1, 2, 47, 8}, {1, 5, 51, 11}, {1, 9, 36, 31}, {1, 60, 36, 31},
            {-1, 1, 44, 0}, {-1, 2, 49, 0}, {-1, 5, 54, 12}, {-1, 9, 54, 15}, {-1, 60, 42, 31},
            {HIGH, 1, 44, 0}, {HIGH, 5, 54, 12}, {HIGH, 60, 42, 31}, {LOW, 1, 42, 1}, {LOW, 5, 47, 13},
            {LOW, 60, 40, 31}, {12345, 5, 51, 12}, {12345, 9, 51, 15}, {12345, 60, 41, 31},
            {-987654321, 2, 43, 4}, {-987654321, 5, 39, 21}, {-987654321, 9, 40, 23}, {-987654321, 60, 45, 31}};
        for (int[] d : drifts) {
            adrift().asks(d[2], x -> x.drift(d[0], d[1], 0));
            adrift().asks(d[3], x -> x.drift(d[0], d[1], 1));
        }
    }

    public void p31WrongNumbers() {
        for (int n : beyond(1, 60)) {
            adrift().asks(BAD, x -> x.drift(1, n, 0));
            adrift().asks(BAD, x -> x.drift(1, n, 1));
        }
        for (int what : beyond(0, 1)) {
            adrift().asks(BAD, x -> x.drift(1, 1, what));
        }
    }

    public void p31NoJudgesOrNoCases() {
        for (String text : new String[] {"", "plain 9 9;", "gaol 1 1 0;"}) {
            Bench.told(text).asks(STATE, x -> x.drift(1, 1, 0));
            Bench.told(text).asks(STATE, x -> x.drift(LOW, 60, 1));
            // BAD ahead of STATE
            Bench.told(text).asks(BAD, x -> x.drift(1, 0, 0));
            Bench.told(text).asks(BAD, x -> x.drift(1, 61, 0));
            Bench.told(text).asks(BAD, x -> x.drift(1, 1, 2));
        }
    }

    public void p31FromWhatIs() {
        // by seed 1 the first is case 3 (of five) by judge 1 (of three): heard ahead, he is away, ahead of its day
        adrift().then(x -> x.give(3, 0, 1)).asks(8, x -> x.drift(1, 1, 1));
        adrift().then(x -> x.give(0, 1, 5)).asks(1, x -> x.drift(1, 1, 1));
        adrift().then(x -> x.amend(3, 3, 1)).asks(0, x -> x.drift(1, 1, 1));
        adrift().then(x -> x.amend(3, 3, 1)).then(x -> x.days(1)).asks(8, x -> x.drift(1, 1, 1));
    }

    public void p31CrimeInItsBounds() {
        Bench.told("plain 1 0;fine 60 60 0;lash 60 60 0;").asks(99, x -> x.drift(1, 60, 0));
        Bench.told("plain 1 0;gaol 60 60 0;crime 3;").asks(0, x -> x.drift(1, 60, 0));
        Bench.told("plain 1 0;gaol 60 60 0;crime 3;").asks(1, x -> x.drift(1, 60, 1));
    }

    public void p31BeyondTheLastDay() {
        Bench x = adrift();
        for (int i = 0; i < 33; i++) {
            x = x.then(y -> y.days(30));
        }
        x.then(y -> y.days(9)).asks(31, y -> y.drift(1, 60, 1));
        x.then(y -> y.days(9)).asks(8, y -> y.drift(1, 1, 1));
    }
}
