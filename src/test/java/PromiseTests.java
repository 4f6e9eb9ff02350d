/** Runs of calls for the promises from 6 on, with answers reckoned by hand; bounds and refusals are in the edge tests. */
public final class PromiseTests extends Tests {
    private static final String FOUR = "plain 9 4; young 3 20; old 20 0; hermit 5 9;";

    public void constants() {
        due(-1, JudgeFirst.BAD);
        due(-2, JudgeFirst.STATE);
        due(-3, JudgeFirst.FULL);
        due(-4, JudgeFirst.NONE);
    }

    public void promise06Rule() {
        JudgeFirst x = told(FOUR + "gaol 25 60 0;stocks 5 9 0;lash 7 7 2;crime 44;");
        due(37, x.give(0, 3, 35));
        due(36, x.give(1, 1, 5));
        int[] now = {4, 3, 0, 36, 3, 10, 40};
        for (int what = 0; what < now.length; what++) {
            due(now[what], x.rule(what));
        }
        due(36, x.days(1));
        due(8, x.rule(5));
        due(39, x.days(3));
        due(0, x.rule(5));
        due(4, x.rule(2));
    }

    public void promise07Judge() {
        JudgeFirst x = told(FOUR + "gaol 25 60 0;stocks 5 9 0;lash 17 19 2;");
        x.give(0, 3, 60);
        x.days(5);
        due(6, x.judge(3, 3));
        x.give(2, 0, 17);
        x.give(1, 0, 9);
        int[] first = {0, 7, 4, 6, 3, 6};
        for (int what = 0; what < first.length; what++) {
            due(first[what], x.judge(0, what));
        }
        due(1, x.judge(3, 5));
        due(0, x.judge(1, 5));
    }

    public void promise08Suit() {
        JudgeFirst x = told("plain 9 4; young 3 20; gaol 25 60 0;stocks 5 9 0;");
        x.give(1, 1, 8);
        int[] second = {3, 5, 9, 0, 8, 1};
        for (int what = 0; what < second.length; what++) {
            due(second[what], x.suit(1, what));
        }
        due(NONE, x.suit(0, 5));
    }

    public void promise09Tenth() {
        JudgeFirst x = told(FOUR);
        int[] sentences = {1, 10, 11, 20, 21, 30, 31, 40, 41, 50, 51, 60};
        int[][] tenths = {
            {1, 1, 2, 2, 3, 3, 4, 4, 5, 5, 6, 6},
            {1, 1, 1, 1, 2, 2, 3, 3, 4, 4, 5, 5},
            {1, 1, 1, 1, 2, 2, 2, 2, 3, 3, 3, 3},
            {2, 2, 2, 2, 4, 4, 4, 4, 6, 6, 6, 6}};
        for (int j = 0; j < 4; j++) {
            for (int i = 0; i < sentences.length; i++) {
                due(tenths[j][i], x.tenth(j, sentences[i]));
            }
        }
    }

    public void promise10Alter() {
        JudgeFirst x = told(FOUR);
        due(0, x.alter(0, 0, 3));
        due(3, x.alter(0, 0, 0));
        due(9, x.alter(0, 1, 20));
        due(20, x.alter(0, 1, 1));
        due(4, x.alter(0, 2, 99));
        due(99, x.alter(0, 2, 0));
        due(0, x.judge(0, 2));
        due(1, x.judge(0, 1));
    }

    public void promise11Amend() {
        JudgeFirst x = told("plain 9 4; gaol 25 40 0;stocks 5 9 0;");
        due(0, x.amend(0, 0, 3));
        due(3, x.amend(0, 0, 1));
        due(25, x.amend(0, 1, 40));
        due(40, x.amend(0, 1, 1));
        due(40, x.amend(0, 2, 60));
        due(60, x.amend(0, 2, 1));
        due(0, x.amend(0, 3, 20));
        due(20, x.amend(0, 3, 0));
        due(1, x.suit(0, 0));
        due(1, x.suit(0, 1));
        due(1, x.suit(0, 2));
        due(0, x.suit(0, 3));
        x.give(1, 0, 5);
        x.appeal(1);
        due(0, x.amend(1, 3, 3));
    }

    public void promise12Crime() {
        JudgeFirst x = new JudgeFirst();
        due(20, x.crime(0));
        due(0, x.crime(99));
        due(99, x.crime(7));
        due(7, x.rule(3));
    }

    public void promise13Can() {
        JudgeFirst x = told("plain 4 3; young 5 4; old 2 2; hermit 5 3; fine 21 60 0; lash 21 60 0; gaol 5 9 1;");
        due(7, x.can(0, 25));
        due(6, x.can(0, 40));
        due(2, x.can(0, 50));
        due(0, x.can(0, 60));
        due(11, x.can(1, 25));
        due(2, x.can(1, 50));
        due(0, x.can(2, 5));
        x.days(1);
        due(15, x.can(2, 9));
        x.give(2, 1, 5);
        due(0, x.can(2, 5));
        due(5, x.can(0, 25));
        x.days(1);
        due(7, x.can(0, 25));
    }

    public void promise14GivesOfEachSort() {
        JudgeFirst x = told("plain 9 4; young 9 4; old 9 4; hermit 9 4; gaol 25 60 0;fine 25 60 0;lash 25 60 0;stocks 25 60 0;");
        due(15, x.give(0, 0, 29));
        due(3, x.judge(0, 3));
        due(9, x.give(1, 1, 31));
        due(1, x.judge(1, 2));
        due(0, x.judge(1, 3));
        due(2, x.give(2, 2, 39));
        due(7, x.judge(2, 1));
        due(2, x.judge(2, 4));
        due(0, x.give(3, 3, 60));
        due(1, x.judge(3, 3));
        due(1, x.judge(3, 4));
        due(9, x.judge(3, 1));
        due(15, x.rule(4));
    }

    public void promise14CanNotBe() {
        JudgeFirst x = told("plain 3 2; old 20 9; fine 20 40 0; lash 20 40 0; gaol 11 30 0; stocks 1 2 1;");
        due(16, x.give(0, 0, 20));
        due(0, x.judge(0, 2));
        due(12, x.give(1, 0, 20));
        due(1, x.judge(0, 1));
        due(10, x.give(2, 0, 11));
        x.days(1);
        due(STATE, x.give(3, 0, 1));
        x.days(1);
        due(12, x.give(3, 0, 1));
        due(3, x.judge(0, 3));
        due(3, x.judge(0, 4));
    }

    public void promise15AppealUndoesBoth() {
        Bench bench = Bench.told("plain 9 4; young 9 4; old 9 4; hermit 9 4; gaol 25 60 0;fine 25 60 0;lash 25 60 0;"
            + "stocks 25 60 0;crime 60;");
        JudgeFirst x = bench.set();
        x.give(0, 0, 29);
        x.give(1, 1, 31);
        x.give(2, 2, 39);
        x.give(3, 3, 60);
        due(30, x.rule(3));
        due(35, x.appeal(0));
        due(41, x.appeal(1));
        due(48, x.appeal(2));
        due(60, x.appeal(3));
        Trace.alike(bench.set(), x);
    }

    public void promise15AsItWasAtTheSentencing() {
        JudgeFirst x = told("plain 20 99; fine 60 60 0; lash 60 60 0; stocks 50 50 0;");
        x.crime(97);
        x.give(0, 0, 60);
        x.give(1, 0, 60);
        x.give(2, 0, 50);
        x.alter(0, 0, 2);
        x.alter(0, 1, 18);
        x.alter(0, 2, 90);
        due(7, x.judge(0, 4));
        due(75, x.appeal(0));
        due(96, x.judge(0, 2));
        due(87, x.appeal(1));
        due(20, x.judge(0, 1));
        due(1, x.judge(0, 4));
        due(97, x.appeal(2));
        due(0, x.judge(0, 4));
        x.alter(0, 2, 97);
        x.give(0, 0, 60);
        due(94, x.judge(0, 2));
        x.alter(0, 2, 97);
        x.crime(90);
        due(99, x.appeal(0));
        due(99, x.judge(0, 2));
    }

    public void promise15AwayUntilNow() {
        JudgeFirst x = told("plain 9 4; gaol 60 60 0; stocks 5 5 0;");
        x.give(0, 0, 60);
        x.days(2);
        x.appeal(0);
        due(2, x.judge(0, 3));
        due(0, x.rule(5));
        x.give(1, 0, 5);
        due(3, x.judge(0, 3));
        x.days(5);
        x.appeal(1);
        due(3, x.judge(0, 3));
        due(0, x.judge(0, 4));
    }

    public void promise16Days() {
        JudgeFirst x = told("plain 9 4; gaol 9 9 0; fine 9 9 2; stocks 9 9 1;");
        due(20, x.days(0));
        due(22, x.days(1));
        due(25, x.days(1));
        x.give(0, 0, 9);
        due(26, x.days(1));
        due(86, x.days(30));
        due(99, x.days(30));
        due(63, x.rule(2));
    }

    public void promise16TheLastDay() {
        JudgeFirst x = new JudgeFirst();
        for (int i = 0; i < 33; i++) {
            due(20, x.days(30));
        }
        due(20, x.days(9));
        due(999, x.rule(2));
        due(20, x.days(0));
    }

    public void promise17Docket() {
        JudgeFirst x = told("old 3 2; young 9 1; fine 30 60 0; lash 50 60 0; gaol 40 40 1; stocks 10 20 9; crime 40;");
        due(0, x.docket(0, 0));
        due(40, x.docket(0, 1));
        due(3, x.docket(0, 2));
        due(12, x.docket(0, 3));
        due(0, x.docket(0, 4));
        due(NONE, x.docket(0, 5));
        // day 0: 0 hears the fine (2 of 2), 1 the lash (4 of 9)
        due(3, x.docket(1, 0));
        due(25, x.docket(1, 1));
        due(1, x.docket(1, 2));
        due(8, x.docket(1, 3));
        due(0, x.docket(1, 4));
        // day 1: 0 hears the gaol (2 days), 1 nothing
        due(7, x.docket(2, 0));
        due(17, x.docket(2, 1));
        due(1, x.docket(2, 4));
        due(17, x.docket(8, 1));
        due(18, x.docket(9, 1));
        due(15, x.docket(10, 0));
        due(16, x.docket(10, 1));
        due(16, x.docket(10, 4));
        due(10, x.docket(10, 5));
        due(NONE, x.docket(9, 5));
        due(10, x.docket(30, 5));
        due(56, x.docket(30, 4));
    }

    public void promise17DocketOfWhatIsHeard() {
        JudgeFirst x = told("plain 3 2; gaol 60 60 0; gaol 1 1 0; crime 99;");
        x.give(0, 0, 60);
        due(0, x.docket(6, 0));
        due(93, x.docket(6, 1));
        due(2, x.docket(7, 0));
        due(7, x.docket(7, 5));
        due(6, x.docket(7, 4));
        x.crime(99);
        due(99, x.docket(6, 1));
        JudgeFirst nobody = new JudgeFirst();
        due(0, nobody.docket(5, 5));
        due(0, nobody.docket(5, 4));
        JudgeFirst away = told("plain 3 2; gaol 30 60 0;");
        away.give(0, 0, 30);
        due(3, away.docket(30, 5));
        due(NONE, away.docket(2, 5));
        due(NONE, told("gaol 1 1 0;").docket(30, 5));
    }

    public void promise17DocketEndsBeyondTheLastDay() {
        JudgeFirst x = told("plain 3 2; gaol 1 1 0; fine 60 60 0;");
        for (int i = 0; i < 33; i++) {
            x.days(30);
        }
        x.days(9);
        due(1, x.docket(30, 0));
        due(99, x.docket(30, 1));
    }

    public void promise18Hears() {
        JudgeFirst x = told("old 3 2; young 9 1; fine 30 60 0; lash 50 60 0; gaol 40 40 1; stocks 10 20 9; crime 40;");
        due(NONE, x.hears(0, 0));
        due(0, x.hears(0, 1));
        due(1, x.hears(1, 1));
        due(NONE, x.hears(2, 1));
        due(0, x.hears(2, 2));
        due(NONE, x.hears(3, 9));
        due(0, x.hears(3, 10));
        x.give(1, 1, 50);
        due(NONE, x.hears(1, 30));
    }

    public void promise19Best() {
        // the plain one can hear all but the last, the old one only the first; most are heard only so
        JudgeFirst x = told("plain 9 9; old 1 0; gaol 10 60 0; fine 10 10 0; fine 20 20 0; gaol 5 5 1;");
        due(2, x.best(0));
        due(14, x.best(1));
        due(2, x.best(10));
        due(0, x.best(11));
        x.give(2, 0, 20);
        due(1, x.best(10));
        due(0, x.best(11));
        x.give(0, 1, 60);
        due(1, x.best(0));
        due(NONE, x.best(11));
    }

    public void promise19FirstOfSeveral() {
        JudgeFirst x = told("plain 9 9; plain 9 9; plain 9 9; gaol 10 60 0; gaol 10 10 0; crime 3;");
        due(2, x.best(0));
        due(0, x.best(1));
        due(0, x.best(10));
        due(1, x.best(11));
        due(NONE, x.best(12));
        // crime is 0 by each: the first by order, though less would be given
        JudgeFirst zero = told("plain 9 9; gaol 5 60 0; gaol 60 60 0; crime 1;");
        due(0, zero.best(10));
        due(0, zero.best(1));
        zero.crime(2);
        due(1, zero.best(10));
        due(0, zero.best(1));
        JudgeFirst nobody = told("gaol 5 5 0;");
        due(0, nobody.best(0));
        due(20, nobody.best(1));
        due(BAD, nobody.best(10));
    }

    public void promise20Deter() {
        JudgeFirst x = told("plain 9 9; gaol 12 32 20; crime 30;");
        due(12, x.deter(0, 28));
        due(12, x.deter(0, 99));
        due(15, x.deter(0, 27));
        due(30, x.deter(0, 24));
        due(NONE, x.deter(0, 23));
        due(NONE, x.deter(0, 0));
        x.crime(3);
        due(15, x.deter(0, 0));
    }

    public void promise21Order() {
        // 0 can hear both, 1 only the first: 1 has to go first
        JudgeFirst x = told("plain 9 1; old 1 0; young 1 1; gaol 10 60 0; fine 10 10 5;");
        due(1, x.order(1, 0));
        due(0, x.order(1, 10));
        x.amend(1, 3, 0);
        x.alter(2, 2, 0);
        due(2, x.order(1, 0));
        due(1, x.order(1, 10));
        due(0, x.order(1, 11));
        due(2, x.order(1, 12));
        due(NONE, x.order(1, 13));
        due(2, x.order(2, 0));
        due(0, x.order(2, 10));
        due(0, x.order(0, 0));
        due(1, x.order(0, 11));
        x.give(0, 2, 10);
        due(1, x.order(3, 0));
        JudgeFirst nobody = new JudgeFirst();
        due(0, nobody.order(3, 0));
        due(NONE, nobody.order(3, 10));
    }

    public void promise22Spare() {
        JudgeFirst x = told("plain 9 1; old 1 0; gaol 10 60 0; fine 10 10 0;");
        due(1, x.spare(0));
        // on one day: with all one is heard, since 0 takes the first case
        due(1, x.spare(1));
        due(1, x.spare(2));
        x.amend(1, 0, 0);
        due(NONE, x.spare(1));
        due(1, x.spare(2));
        due(NONE, new JudgeFirst().spare(5));
        x.give(0, 0, 10);
        x.give(1, 1, 10);
        due(1, x.spare(9));
    }

    public void promise22AsManyNotMore() {
        // without the young one the plain one keeps his purse for the two of the next days: more are heard
        JudgeFirst x = told("young 9 0; plain 9 5; gaol 1 1 0; fine 20 20 1; fine 21 21 2; fine 50 50 0;");
        due(2, Integer.bitCount(x.docket(5, 0)));
        due(3, Integer.bitCount(told("plain 9 5; gaol 1 1 0; fine 20 20 1; fine 21 21 2; fine 50 50 0;").docket(5, 0)));
        due(NONE, x.spare(5));
    }

    public void promise23Hopeless() {
        JudgeFirst x = told("plain 3 2; old 1 1; gaol 60 60 20; fine 21 60 20; lash 21 60 0; fine 20 60 0; stocks 60 60 0;");
        due(6, x.hopeless());
        x.alter(1, 2, 2);
        due(4, x.hopeless());
        x.alter(0, 1, 4);
        due(0, x.hopeless());
        x.alter(0, 2, 2);
        x.alter(1, 2, 0);
        x.give(3, 0, 20);
        due(2, x.hopeless());
        x.give(4, 0, 60);
        x.give(0, 0, 60);
        due(2, x.hopeless());
        due(1, told("gaol 5 5 20;").hopeless());
        due(0, new JudgeFirst().hopeless());
    }

    public void promise24Mean() {
        JudgeFirst x = told("plain 9 4; old 9 4; gaol 29 29 0; fine 14 14 0; gaol 9 9 0;");
        due(20, x.mean(3, 0));
        due(1, x.mean(3, 1));
        x.give(0, 0, 29);
        x.give(1, 1, 14);
        // 13, more by 5 and by 2
        due(13, x.mean(0, 0));
        due(20, x.mean(10, 0));
        due(1, x.mean(10, 1));
        due(33, x.mean(5, 0));
        due(2, x.mean(5, 1));
        due(137, x.mean(1, 0));
        due(10, x.mean(1, 1));
        x.crime(95);
        // 95, 97, 99, 99 (not 102)
        due(390, x.mean(5, 0) * 4 / x.mean(5, 1));
        due(195, x.mean(5, 0));
        due(2, x.mean(5, 1));
        x.crime(0);
        due(0, x.mean(0, 0));
        due(1, x.mean(0, 1));
    }

    public void promise25Luck() {
        JudgeFirst x = told("plain 9 4; old 9 4; gaol 29 29 0; fine 14 14 0; gaol 9 9 0;");
        x.give(0, 0, 29);
        x.give(1, 1, 14);
        // 13, 15, 18, 20 at 49, 21, 21, 9 of a hundred
        due(0, x.luck(3, 12, 0));
        due(1, x.luck(3, 12, 1));
        due(49, x.luck(3, 13, 0));
        due(100, x.luck(3, 13, 1));
        due(7, x.luck(3, 17, 0));
        due(10, x.luck(3, 17, 1));
        due(91, x.luck(3, 19, 0));
        due(1, x.luck(3, 20, 0));
        due(1, x.luck(3, 99, 1));
        due(0, x.luck(3, 0, 0));
        due(0, x.luck(0, 12, 0));
        due(1, x.luck(0, 13, 0));
        due(0, x.luck(10, 19, 0));
        due(1, x.luck(10, 20, 0));
        JudgeFirst nobody = new JudgeFirst();
        due(1, nobody.luck(4, 20, 0));
        due(0, nobody.luck(4, 19, 0));
        due(1, nobody.luck(4, 19, 1));
    }

    public void promise26See() {
        JudgeFirst x = told("plain 9 4; gaol 29 29 0; fine 14 14 0;");
        for (int i = 1; i <= 6; i++) {
            due(i, x.see(0, i % 2, i % 2 == 0 ? 60 : 0));
        }
    }

    public void promise27Forget() {
        JudgeFirst x = told("plain 9 4; gaol 20 29 0;");
        due(0, x.forget(0));
        due(BAD, x.forget(1));
        x.see(0, 0, 2);
        x.see(0, 0, 3);
        x.see(0, 0, 60);
        due(0, x.kinds(0));
        due(3, x.forget(3));
        due(3, x.forget(2));
        due(2, x.count(0));
        due(1, x.kinds(0));
        due(2, x.forget(1));
        due(15, x.kinds(0));
        due(1, x.forget(0));
        due(15, x.kinds(0));
    }

    public void promise28Kinds() {
        JudgeFirst x = told("plain 9 4; old 1 1; gaol 25 60 0; fine 41 50 0; lash 1 10 0;");
        due(15, x.kinds(0));
        x.see(0, 0, 4);
        due(11, x.kinds(0));
        x.see(0, 0, 2);
        due(2, x.kinds(0));
        x.forget(1);
        x.see(0, 1, 5);
        due(1, x.kinds(0));
        due(15, x.kinds(1));
        x.see(1, 2, 2);
        due(8, x.kinds(1));
        x.see(1, 2, 1);
        due(0, x.kinds(1));
        x.amend(2, 2, 20);
        due(1, x.kinds(1));
    }

    public void promise29Terms() {
        JudgeFirst x = told("plain 9 4; old 1 1; gaol 5 55 0; fine 51 60 0;");
        due(51, x.terms(0, 0));
        due(5, x.terms(0, 1));
        due(55, x.terms(0, 2));
        x.see(0, 0, 4);
        // plain: 31 to 40; young: 41 to 50; hermit: 21 to 40
        due(30, x.terms(0, 0));
        due(21, x.terms(0, 1));
        due(50, x.terms(0, 2));
        due(10, x.terms(1, 0));
        x.see(0, 1, 6);
        // not young
        due(20, x.terms(0, 0));
        due(21, x.terms(0, 1));
        due(40, x.terms(0, 2));
        x.see(1, 0, 3);
        // plain: 21 to 30; young: 31 to 40; old: 41 to 55
        due(20, x.terms(0, 0));
        x.see(1, 0, 4);
        // plain or young, of two sentences: never both of one
        due(0, x.terms(0, 0));
        due(NONE, x.terms(0, 1));
        due(NONE, x.terms(0, 2));
    }

    public void promise30Ask() {
        JudgeFirst x = told("plain 9 4; old 1 1; gaol 1 60 0; fine 41 50 0;");
        // of all four: 31 to 40 tells 4, 3, 2, 4; 41 to 50 tells 5, 4, 3, 6
        due(41, x.ask(0, 0));
        due(1, x.ask(0, 1));
        x.see(0, 0, 2);
        x.see(0, 1, 6);
        due(8, x.kinds(0));
        due(NONE, x.ask(0, 0));
        due(NONE, x.ask(0, 1));
        x.see(1, 0, 1);
        due(7, x.kinds(1));
        // plain, young, old: 31 to 40 tells 4, 3, 2
        due(31, x.ask(1, 0));
        due(1, x.ask(1, 1));
        x.see(1, 1, 3);
        due(4, x.kinds(1));
        due(NONE, x.ask(1, 0));
        x.see(1, 1, 60);
        due(NONE, x.ask(1, 1));
    }

    public void promise30AskOfTwo() {
        JudgeFirst x = told("plain 9 4; gaol 1 60 0; fine 51 60 0;");
        x.see(0, 1, 6);
        // plain or hermit: 1 tells 1 and 2
        due(9, x.kinds(0));
        due(1, x.ask(0, 0));
        due(1, x.ask(0, 1));
    }

    public void promise31Drift() {
        // by seed 1: got are 16838, 5758, 10113, 17515, 31051: of four cases 2, 2, 1, 3, 3, of three judges 1, 2, 1, 2, 2
        JudgeFirst x = told("plain 9 9; old 9 9; young 9 9; gaol 5 5 0; fine 20 30 0; gaol 25 30 0; stocks 1 1 0; crime 40;");
        due(4, x.drift(1, 1, 1));
        due(38, x.drift(1, 1, 0));
        due(4, x.drift(1, 2, 1));
        due(41, x.drift(1, 2, 0));
        due(6, x.drift(1, 3, 1));
        due(39, x.drift(1, 3, 0));
        due(14, x.drift(1, 4, 1));
        due(40, x.drift(1, 4, 0));
        due(14, x.drift(1, 5, 1));
        due(41, x.drift(1, 5, 0));
        x.give(0, 0, 5);
        due(5, x.drift(1, 1, 1));
    }

    public void promise32Keep() {
        JudgeFirst x = told("plain 9 9; gaol 5 5 0;");
        due(0, x.keep(0));
        due(1, x.count(1));
        due(1, x.keep(0));
        due(1, x.count(1));
        due(0, x.keep(1));
        due(2, x.count(1));
        x.text();
        due(0, x.keep(1));
        due(1, x.count(1));
    }

    public void promise34Sheet() {
        JudgeFirst x = new JudgeFirst();
        due(1, x.sheet(0, 0, 0));
        due(0, x.count(3));
        due(1, x.sheet(0, 1, 40));
        due(40, x.count(3));
        due(1, x.sheet(3, 2, 1));
        due(1, x.lay(3, 0, 5));
        due(-12, x.lay(3, 1, 5));
        due(-11, x.lay(1, 0, 0));
    }

    public void promise34ANewRowIsOfZeros() {
        JudgeFirst x = told("plain 9 9; gaol 1 60 0; gaol 1 60 0;");
        x.sheet(0, 2, 3);
        x.lay(0, 0, 1);
        x.lay(0, 2, 10);
        x.sheet(0, 2, 3);
        x.lay(0, 2, 10);
        due(1, x.read(0, 2, 0, 1));
        due(1, x.rule(4));
    }

    public void promise35Lay() {
        JudgeFirst x = told("plain 9 9; gaol 1 60 0;");
        x.sheet(0, 0, 3);
        due(1, x.lay(0, 2, 256 + 20));
        due(1, x.read(0, 0, 0, 1));
        due(20, x.suit(0, 4));
    }

    public void promise35LowestBits() {
        // a cell of a case, of a judge, of how much: bits above its lane are gone, its sign is kept
        int[] lanes = {0, 1, 2};
        int[] size = {256, 65536, 0};
        for (int lane : lanes) {
            JudgeFirst x = told("plain 9 9; gaol 1 60 0;");
            x.sheet(2, lane, 3);
            x.lay(2, 0, size[lane]);
            x.lay(2, 1, -size[lane]);
            x.lay(2, 2, size[lane] * 3 + 7);
            due(1, x.read(2, lane, 0, 1));
            due(7, x.suit(0, 4));
        }
        JudgeFirst x = told("plain 9 9; gaol 1 60 0;");
        x.sheet(2, 0, 3);
        x.lay(2, 2, 128 + 20);
        due(-20, x.read(2, 0, 0, 1));
        x.sheet(2, 1, 3);
        x.lay(2, 2, 256 + 20);
        due(-20, x.read(2, 1, 0, 1));
        x.sheet(2, 2, 3);
        x.lay(2, 2, 65536 + 20);
        due(-20, x.read(2, 2, 0, 1));
    }

    public void promise36ReadsOneBehindAnother() {
        JudgeFirst x = sheetOf(new int[] {9, 0, 0, 30, 1, 1, 20, 2, 0, 10});
        due(2, x.read(1, 1, 1, 2));
        due(0, x.torn());
        due(3, x.rule(4));
        due(30, x.suit(0, 4));
        due(1, x.suit(1, 5));
        due(20 - 6 - 4, x.rule(3));
        // its judge is away by what came ahead
        JudgeFirst y = sheetOf(new int[] {9, 0, 0, 30, 1, 1, 20, 2, 0, 10});
        due(-22, y.read(1, 1, 1, 3));
        due(0, y.rule(4));
    }

    public void promise36WhatTheMachineRefuses() {
        JudgeFirst x = sheetOf(new int[] {0, 0, 30, 1, 1, 20, 2, 0});
        due(2, x.read(1, 1, 0, 3));
        due(2, x.torn());
        due(3, x.rule(4));
        due(0, x.read(1, 1, 8, 1));
        due(2, x.torn());
        due(0, x.read(1, 1, 0, 0));
        due(0, x.torn());
        for (int f : new int[] {-1, -3, 6, 7, 9, HIGH, HIGH - 1, LOW}) {
            due(0, x.read(1, 1, 0, 0));
            due(0, x.read(1, 1, f, 13));
            due(2, x.torn());
        }
        due(0, x.read(1, 0, 0, 1));
        due(3, x.torn());
        due(0, x.read(1, 2, -5, 1));
        due(3, x.torn());
        due(0, x.read(0, 1, 0, 1));
        due(1, x.torn());
        due(0, x.read(0, 1, HIGH, 0));
        due(0, x.torn());
        due(0, x.read(1, 2, HIGH, 0));
        due(0, x.torn());
        due(3, x.rule(4));
        x.sheet(1, 1, 0);
        due(0, x.read(1, 1, 0, 1));
        due(2, x.torn());
    }

    public void promise37Torn() {
        JudgeFirst x = sheetOf(new int[] {0, 0, 30, 0, 0, 30});
        due(0, x.torn());
        due(0, x.read(1, 1, 4, 1));
        due(2, x.torn());
        due(-21, x.read(1, 1, 0, 2));
        due(2, x.torn());
        due(BAD, x.read(1, 1, 0, 14));
        due(2, x.torn());
        x.keep(0);
        x.back(0);
        x.text();
        due(2, x.torn());
        due(0, x.read(0, 1, 0, 1));
        due(1, x.torn());
    }

    public void promise37WholeReadHasNone() {
        JudgeFirst x = sheetOf(new int[] {0, 0, 30});
        due(0, x.read(1, 2, 0, 1));
        due(3, x.torn());
        due(1, x.read(1, 1, 0, 1));
        due(0, x.torn());
    }

    public void promise38Count() {
        JudgeFirst x = told("plain 9 9; old 7 70; gaol 5 5 0; lash 20 20 0; stocks 7 7 0;");
        x.see(0, 0, 1);
        x.keep(1);
        Due.feed(x, "old");
        x.give(1, 0, 20);
        x.give(2, 1, 7);
        int[] count = {1, 1, 3, NONE, 79, 3};
        for (int what = 0; what < count.length; what++) {
            due(count[what], x.count(what));
        }
        x.sheet(1, 0, 9);
        due(NONE, x.count(3));
        x.sheet(0, 0, 9);
        due(9, x.count(3));
    }

    private static JudgeFirst sheetOf(int[] cells) {
        JudgeFirst x = told("plain 9 9; old 9 9; gaol 1 60 0; fine 1 60 0; stocks 1 60 0;");
        due(1, x.sheet(1, 1, cells.length));
        for (int i = 0; i < cells.length; i++) {
            due(1, x.lay(1, i, cells[i]));
        }
        return x;
    }
}
