import java.math.BigInteger;
import java.util.ArrayList;
import java.util.Arrays;
import java.util.List;
import java.util.regex.Matcher;
import java.util.regex.Pattern;

/** What the program reckons in one call, reckoned again by many plain calls on made-up benches. */
public final class CrossTests extends Tests {
    private static final int SCENES = 400;

    /** One day's hearings and the day, by give() and days(); who hears what is noted, -1 for what was heard ahead. */
    private static int playDay(JudgeFirst x, int judges, int[] leasts, int[] by) {
        int idle = 0;
        for (int j = 0; j < judges; j++) {
            boolean hears = false;
            for (int c = 0; c < leasts.length && !hears; c++) {
                if (by[c] == NONE && x.give(c, j, leasts[c]) >= 0) {
                    hears = true;
                    by[c] = j;
                }
            }
            idle += hears ? 0 : 1;
        }
        x.days(1);
        return idle;
    }

    private static int sum(JudgeFirst x, int judges, int what) {
        int sum = 0;
        for (int j = 0; j < judges; j++) {
            sum += x.judge(j, what);
        }
        return sum;
    }

    public void promise17And18Docket() {
        Numbers r = new Numbers(1);
        for (int i = 0; i < SCENES; i++) {
            Scene scene = new Scene(r, true);
            JudgeFirst asked = scene.build();
            JudgeFirst played = scene.build();
            int judges = played.rule(0);
            int suits = played.rule(1);
            int heard = played.rule(4);
            int[] leasts = new int[suits];
            int[] by = new int[suits];
            for (int c = 0; c < suits; c++) {
                leasts[c] = played.suit(c, 1);
                by[c] = (heard >> c & 1) == 1 ? -1 : NONE;
            }
            int idle = 0;
            int first = NONE;
            for (int n = 0; n <= 8; n++) {
                boolean clear = played.rule(5) == 0 && Integer.bitCount(played.rule(4)) == suits;
                first = first == NONE && clear ? n : first;
                due(played.rule(4) & ~heard, asked.docket(n, 0));
                due(played.rule(3), asked.docket(n, 1));
                due(sum(played, judges, 2), asked.docket(n, 2));
                due(sum(played, judges, 1), asked.docket(n, 3));
                due(idle, asked.docket(n, 4));
                due(first, asked.docket(n, 5));
                for (int c = 0; c < suits; c++) {
                    due(by[c] == -1 ? NONE : by[c], asked.hears(c, n));
                }
                idle += playDay(played, judges, leasts, by);
            }
            Trace.alike(scene.build(), asked);
        }
    }

    private static final class Choice {
        int heard = -1;
        int crime;
        int[] picks;
    }

    /** All ways, then the best by the words of the promise, without any order of the search. */
    private static void choose(int crime, int[] leasts, int[] can, int[] picks, int j, Choice best) {
        if (j == picks.length) {
            int heard = 0;
            int then = crime;
            for (int c : picks) {
                if (c != 9) {
                    heard++;
                    then = Math.max(0, then - leasts[c] / 5);
                }
            }
            boolean better = heard > best.heard || heard == best.heard && (then < best.crime
                    || then == best.crime && Arrays.compare(picks, best.picks) < 0);
            if (better) {
                best.heard = heard;
                best.crime = then;
                best.picks = picks.clone();
            }
            return;
        }
        picks[j] = 9;
        choose(crime, leasts, can, picks, j + 1, best);
        for (int c = 0; c < leasts.length; c++) {
            boolean free = true;
            for (int i = 0; i < j; i++) {
                free &= picks[i] != c;
            }
            if (free && (can[c] >> j & 1) == 1) {
                picks[j] = c;
                choose(crime, leasts, can, picks, j + 1, best);
            }
        }
    }

    public void promise19Best() {
        Numbers r = new Numbers(2);
        for (int i = 0; i < SCENES; i++) {
            Scene scene = new Scene(r, true);
            JudgeFirst x = scene.build();
            int[] leasts = new int[x.rule(1)];
            int[] can = new int[leasts.length];
            for (int c = 0; c < leasts.length; c++) {
                leasts[c] = x.suit(c, 1);
                can[c] = x.can(c, leasts[c]);
            }
            Choice best = new Choice();
            choose(x.rule(3), leasts, can, new int[x.rule(0)], 0, best);
            due(best.heard, x.best(0));
            due(best.crime, x.best(1));
            for (int j = 0; j < best.picks.length; j++) {
                due(best.picks[j] == 9 ? NONE : best.picks[j], x.best(10 + j));
            }
            due(BAD, x.best(10 + best.picks.length));
            Trace.alike(scene.build(), x);
        }
    }

    public void promise20Deter() {
        Numbers r = new Numbers(3);
        for (int i = 0; i < SCENES; i++) {
            JudgeFirst x = new Scene(r, true).build();
            for (int c = 0; c < x.rule(1); c++) {
                int v = r.next(0, x.rule(3) + 1 > 99 ? 99 : x.rule(3) + 1);
                int want = NONE;
                for (int n = x.suit(c, 2); n >= x.suit(c, 1); n--) {
                    want = Math.max(0, x.rule(3) - n / 5) <= v ? n : want;
                }
                due(x.suit(c, 4) > 0 ? STATE : want, x.deter(c, v));
            }
        }
    }

    private static void permute(List<Integer> order, int many, List<List<Integer>> all) {
        if (order.size() == many) {
            all.add(new ArrayList<>(order));
        }
        for (int j = 0; j < many; j++) {
            if (!order.contains(j)) {
                order.add(j);
                permute(order, many, all);
                order.remove(order.size() - 1);
            }
        }
    }

    public void promise21Order() {
        Numbers r = new Numbers(4);
        int notTheFirst = 0;
        for (int i = 0; i < SCENES; i++) {
            Scene scene = new Scene(r, false);
            JudgeFirst x = scene.build();
            int n = r.next(0, 1) == 0 ? r.next(0, 12) : r.next(1, 3);
            List<List<Integer>> orders = new ArrayList<>();
            permute(new ArrayList<>(), scene.judges.size(), orders);
            int most = -1;
            List<Integer> first = null;
            for (List<Integer> order : orders) {
                List<String> seated = new ArrayList<>();
                order.forEach(j -> seated.add(scene.judges.get(j)));
                int heard = Integer.bitCount(scene.build(seated).docket(n, 0));
                if (heard > most) {
                    most = heard;
                    first = order;
                }
            }
            due(most, x.order(n, 0));
            for (int place = 0; place < 4; place++) {
                due(place < first.size() ? first.get(place) : NONE, x.order(n, 10 + place));
            }
            notTheFirst += first.equals(orders.get(0)) ? 0 : 1;
        }
        due(1, notTheFirst >= 8 ? 1 : 0);
    }

    public void promise22Spare() {
        Numbers r = new Numbers(5);
        for (int i = 0; i < SCENES; i++) {
            Scene scene = new Scene(r, false);
            JudgeFirst x = scene.build();
            int n = r.next(0, 12);
            int want = NONE;
            for (int j = 0; j < scene.judges.size(); j++) {
                List<String> others = new ArrayList<>(scene.judges);
                others.remove(j);
                boolean asMany = Integer.bitCount(scene.build(others).docket(n, 0)) == Integer.bitCount(x.docket(n, 0));
                want = asMany ? j : want;
            }
            due(want, x.spare(n));
        }
    }

    public void promise23Hopeless() {
        Numbers r = new Numbers(6);
        for (int i = 0; i < SCENES; i++) {
            Scene scene = new Scene(r, true);
            JudgeFirst later = scene.build();
            later.days(30);
            int want = 0;
            for (int c = 0; c < later.rule(1); c++) {
                if (later.suit(c, 4) == 0 && later.can(c, later.suit(c, 1)) == 0) {
                    want |= 1 << c;
                }
            }
            due(want, scene.build().hopeless());
        }
    }

    public void promise24And25Odds() {
        Numbers r = new Numbers(7);
        for (int i = 0; i < SCENES / 4; i++) {
            JudgeFirst x = new Scene(r, true).build();
            x.keep(0);
            int v = r.next(0, 10);
            int w = Math.min(99, x.rule(3) + r.next(0, 15));
            int heard = x.rule(4);
            BigInteger[] sums = {BigInteger.ZERO, BigInteger.ZERO};
            for (int wrong = 0; wrong < 32; wrong++) {
                if ((wrong | heard) != heard) {
                    continue;
                }
                x.back(0);
                BigInteger odds = BigInteger.ONE;
                for (int c = 0; c < 5; c++) {
                    if ((wrong >> c & 1) == 1) {
                        x.appeal(c);
                    }
                    int part = (wrong >> c & 1) == 1 ? v : (heard >> c & 1) == 1 ? 10 - v : 1;
                    odds = odds.multiply(BigInteger.valueOf(part));
                }
                sums[0] = sums[0].add(odds.multiply(BigInteger.valueOf(x.rule(3))));
                sums[1] = x.rule(3) <= w ? sums[1].add(odds) : sums[1];
            }
            x.back(0);
            BigInteger whole = BigInteger.TEN.pow(Integer.bitCount(heard));
            BigInteger a = sums[0].gcd(whole);
            BigInteger b = sums[1].gcd(whole);
            due(sums[0].divide(a).longValue(), x.mean(v, 0));
            due(whole.divide(a).longValue(), x.mean(v, 1));
            due(sums[1].divide(b).longValue(), x.luck(v, w, 0));
            due(whole.divide(b).longValue(), x.luck(v, w, 1));
        }
    }

    public void promise28To30Scars() {
        Numbers r = new Numbers(8);
        for (int i = 0; i < SCENES; i++) {
            JudgeFirst x = new Scene(r, false).build();
            int judges = x.rule(0);
            int[][] bounds = new int[x.rule(1)][];
            for (int c = 0; c < bounds.length; c++) {
                bounds[c] = new int[] {x.suit(c, 1), x.suit(c, 2)};
            }
            if (judges == 0 || bounds.length == 0) {
                continue;
            }
            List<int[]> seen = new ArrayList<>();
            for (int k = r.next(0, 6); k > 0; k--) {
                int j = r.next(0, Math.min(1, judges - 1));
                int c = r.next(0, Math.min(1, bounds.length - 1));
                int kind = r.next(0, 9) == 0 ? r.next(0, 3) : x.judge(j, 0);
                int t = tenth(kind, r.next(bounds[c][0], bounds[c][1]));
                seen.add(new int[] {j, c, t});
                x.see(j, c, t);
            }
            int[] kinds = new int[judges];
            for (int j = 0; j < judges; j++) {
                kinds[j] = kinds(bounds, seen, j);
                due(kinds[j], x.kinds(j));
                asks(x, kinds[j], j);
            }
            for (int c = 0; c < bounds.length; c++) {
                terms(x, bounds[c], kinds, seen, c);
            }
        }
    }

    private static int kinds(int[][] bounds, List<int[]> seen, int j) {
        int kinds = 15;
        for (int[] s : seen) {
            for (int kind = 0; kind < 4 && s[0] == j; kind++) {
                boolean some = false;
                for (int n = bounds[s[1]][0]; n <= bounds[s[1]][1]; n++) {
                    some |= tenth(kind, n) == s[2];
                }
                kinds &= some ? 15 : ~(1 << kind);
            }
        }
        return kinds;
    }

    private static void terms(JudgeFirst x, int[] bounds, int[] kinds, List<int[]> seen, int c) {
        List<Integer> left = new ArrayList<>();
        for (int n = bounds[0]; n <= bounds[1]; n++) {
            boolean all = true;
            for (int j = 0; j < kinds.length; j++) {
                int could = kinds[j];
                boolean any = false;
                for (int[] s : seen) {
                    any |= s[0] == j && s[1] == c;
                    for (int kind = 0; kind < 4 && s[0] == j && s[1] == c; kind++) {
                        could &= tenth(kind, n) == s[2] ? 15 : ~(1 << kind);
                    }
                }
                all &= !any || could != 0;
            }
            if (all) {
                left.add(n);
            }
        }
        due(left.size(), x.terms(c, 0));
        due(left.isEmpty() ? NONE : left.get(0), x.terms(c, 1));
        due(left.isEmpty() ? NONE : left.get(left.size() - 1), x.terms(c, 2));
    }

    private static void asks(JudgeFirst x, int kinds, int j) {
        int fewest = Integer.bitCount(kinds);
        int question = NONE;
        for (int n = 1; n <= 60; n++) {
            int[] told = new int[61];
            for (int kind = 0; kind < 4; kind++) {
                told[tenth(kind, n)] += kinds >> kind & 1;
            }
            int worst = Arrays.stream(told).max().getAsInt();
            if (worst < fewest) {
                fewest = worst;
                question = n;
            }
        }
        due(question, x.ask(j, 0));
        due(question == NONE ? NONE : fewest, x.ask(j, 1));
    }

    public void promise31Drift() {
        Numbers r = new Numbers(9);
        for (int i = 0; i < SCENES; i++) {
            Scene scene = new Scene(r, true);
            JudgeFirst x = scene.build();
            JudgeFirst played = scene.build();
            int judges = played.rule(0);
            int[] leasts = new int[played.rule(1)];
            for (int c = 0; c < leasts.length; c++) {
                leasts[c] = played.suit(c, 1);
            }
            if (judges == 0 || leasts.length == 0) {
                due(STATE, x.drift(5, 5, 0));
                continue;
            }
            int seed = r.wild(-1000000, 1000000);
            BigInteger state = BigInteger.valueOf(seed);
            for (int n = 1; n <= 60; n++) {
                state = state.multiply(BigInteger.valueOf(1103515245)).add(BigInteger.valueOf(12345))
                    .mod(BigInteger.ONE.shiftLeft(32));
                int got = state.shiftRight(16).intValue() & 32767;
                int c = got % leasts.length;
                played.give(c, got / 8 % judges, leasts[c]);
                played.days(1);
                due(played.rule(3), x.drift(seed, n, 0));
                due(played.rule(4), x.drift(seed, n, 1));
            }
        }
    }

    public void promise36Read() {
        Numbers r = new Numbers(10);
        for (int i = 0; i < SCENES; i++) {
            Scene scene = new Scene(r, false);
            int size = r.next(3, 15);
            int[] cells = new int[size];
            for (int k = 0; k < size; k++) {
                cells[k] = k % 3 == 2 ? r.next(20, 60) : k / 3;
            }
            JudgeFirst x = laid(scene, cells);
            JudgeFirst given = laid(scene, cells);
            int n = r.next(1, 5);
            int came = 0;
            int want = NONE;
            while (came < n && want == NONE && came * 3 + 2 < size) {
                int at = came * 3;
                if (given.give(cells[at], cells[at + 1], cells[at + 2]) < 0) {
                    want = -20 - came;
                } else {
                    came++;
                }
            }
            due(want == NONE ? came : want, x.read(2, 1, 0, n));
            due(want == NONE && came < n ? 2 : 0, x.torn());
            Trace.alike(want == NONE ? given : laid(scene, cells), x, "torn");
        }
    }

    private static JudgeFirst laid(Scene scene, int[] cells) {
        JudgeFirst x = scene.build();
        x.sheet(2, 1, cells.length);
        for (int k = 0; k < cells.length; k++) {
            x.lay(2, k, cells[k]);
        }
        return x;
    }

    private static final Pattern TOKEN = Pattern.compile("[a-z]+|[0-9]+|;");
    private static final List<String> WORDS =
        Arrays.asList("plain", "young", "old", "hermit", "gaol", "fine", "lash", "stocks", "crime");

    /** Lines of a text, or -10 less the place of its fault; the fault as the second. */
    private static int[] read(String text) {
        int at = 0;
        int lines = 0;
        int[] told = new int[3];
        String word = null;
        List<Integer> numbers = new ArrayList<>();
        while (true) {
            while (at < text.length() && text.charAt(at) == ' ') {
                at++;
            }
            if (at == text.length()) {
                return word == null ? new int[] {lines, 0} : new int[] {-10 - at, 2};
            }
            Matcher m = TOKEN.matcher(text).region(at, text.length());
            if (!m.lookingAt() || Character.isDigit(m.group().charAt(0)) && m.group().length() > 2) {
                return new int[] {-10 - at, 1};
            }
            int fault = 0;
            String token = m.group();
            if (word == null) {
                int group = WORDS.indexOf(token) / 4;
                fault = !WORDS.contains(token) ? 2 : told[group] == new int[] {4, 5, 1}[group] ? 5 - group / 2 : 0;
                if (fault == 0) {
                    told[group]++;
                    word = token;
                    numbers.clear();
                }
            } else {
                int group = WORDS.indexOf(word) / 4;
                if (numbers.size() == new int[] {2, 3, 1}[group]) {
                    fault = token.equals(";") ? 0 : 2;
                    word = null;
                    lines++;
                } else if (!token.matches("[0-9]+")) {
                    fault = 2;
                } else {
                    int least = group == 1 && numbers.size() == 1 ? numbers.get(0) : 0;
                    int[][] low = {{1, 0}, {1, least, 0}, {0}};
                    int[][] high = {{20, 99}, {60, 60, 20}, {99}};
                    int v = Integer.parseInt(token);
                    fault = v < low[group][numbers.size()] || v > high[group][numbers.size()] ? 3 : 0;
                    numbers.add(v);
                }
            }
            if (fault != 0) {
                return new int[] {-10 - at, fault};
            }
            at = m.end();
        }
    }

    public void promise04And05Text() {
        Numbers r = new Numbers(11);
        int[] faults = new int[6];
        for (int i = 0; i < 20000; i++) {
            StringBuilder text = new StringBuilder();
            int lines = r.next(0, 9);
            for (int k = 0; k < lines; k++) {
                int word = r.next(0, 12) == 0 ? 8 : r.next(0, 7);
                text.append(WORDS.get(word)).append(r.next(0, 4) == 0 ? "" : " ");
                for (int q = new int[] {2, 3, 1}[word / 4]; q > 0; q--) {
                    int v = r.next(0, 40) == 0 ? r.next(0, 120) : word / 4 == 1 && q == 2 ? r.next(17, 60) : r.next(1, 20);
                    text.append(v).append(q == 1 ? "" : " ");
                }
                text.append(r.next(0, 4) == 0 ? " ;  " : ";");
            }
            for (int k = r.next(0, 3) == 0 ? r.next(1, 3) : 0; k > 0 && text.length() > 0; k--) {
                int at = r.next(0, text.length() - 1);
                if (r.next(0, 2) == 0) {
                    text.deleteCharAt(at);
                } else {
                    text.insert(at, "; 190a.{/z:`\t".charAt(r.next(0, 12)));
                }
            }
            String whole = text.length() > 160 ? text.substring(0, 160) : text.toString();
            JudgeFirst x = new JudgeFirst();
            Due.feed(x, whole);
            int[] want = read(whole);
            int answer = x.text();
            if (answer != want[0] || x.fault() != want[1]) {
                throw new AssertionError("'" + whole + "' answered " + answer + ", " + x.fault() + "; due is "
                        + want[0] + ", " + want[1]);
            }
            faults[want[1]]++;
        }
        for (int fault = 0; fault < faults.length; fault++) {
            due(1, faults[fault] >= 20 ? 1 : 0);
        }
    }

    /** One call, of any kind, its numbers mostly near what is asked for. */
    private static long anyCall(JudgeFirst x, Numbers r) {
        int j = r.wild(0, 3);
        int c = r.wild(0, 4);
        int n = r.wild(1, 60);
        int days = r.wild(0, 30);
        int what = r.wild(0, 6);
        int k = r.wild(0, 3);
        switch (r.next(0, 35)) {
            case 0: return x.feed(r.wild(32, 127));
            case 1: return x.end(r.wild(0, 10));
            case 2: return r.next(0, 9) == 0 ? x.text() : x.fault();
            case 3: return x.rule(what);
            case 4: return x.judge(j, what);
            case 5: return x.suit(c, what);
            case 6: return x.tenth(j, n);
            case 7: return x.alter(j, r.wild(0, 2), r.wild(0, 21));
            case 8: return x.amend(c, r.wild(0, 3), n);
            case 9: return x.crime(r.wild(0, 99));
            case 10: return x.can(c, n);
            case 11: return x.give(c, j, n);
            case 12: return x.appeal(c);
            case 13: return x.days(days);
            case 14: return x.docket(days, what);
            case 15: return x.hears(c, days);
            case 16: return x.best(r.next(0, 1) == 0 ? what : r.wild(10, 13));
            case 17: return x.deter(c, r.wild(0, 99));
            case 18: return x.order(days, r.next(0, 1) == 0 ? what : r.wild(10, 13));
            case 19: return x.spare(days);
            case 20: return x.hopeless();
            case 21: return x.mean(r.wild(0, 10), r.wild(0, 1));
            case 22: return x.luck(r.wild(0, 10), r.wild(0, 99), r.wild(0, 1));
            case 23: return x.see(j, c, r.wild(0, 6));
            case 24: return x.forget(r.wild(0, 6));
            case 25: return x.kinds(j);
            case 26: return x.terms(c, r.wild(0, 2));
            case 27: return x.ask(j, r.wild(0, 1));
            case 28: return x.drift(r.wild(-9, 9), n, r.wild(0, 1));
            case 29: return x.keep(r.wild(0, 1));
            case 30: return x.back(r.wild(0, 1));
            case 31: return x.sheet(k, r.wild(0, 2), r.wild(0, 40));
            case 32: return x.lay(k, r.wild(0, 40), r.wild(-70000, 70000));
            case 33: return x.read(k, r.wild(0, 2), r.wild(0, 40), r.wild(0, 13));
            case 34: return x.torn();
            default: return x.count(what);
        }
    }

    /** Runs of any calls, as long as an object is good for. */
    public void promisesAllNoCallThrows() {
        Numbers r = new Numbers(12);
        for (int i = 0; i < 2000; i++) {
            JudgeFirst x = i % 10 == 0 ? new JudgeFirst() : new Scene(r, true).build();
            for (int k = 0; k < 300; k++) {
                anyCall(x, r);
            }
            inBounds(x);
        }
    }

    /** Behind a call that is refused all is as it is behind the same calls without it. */
    public void promisesAllWhatIsRefusedChangesNothing() {
        Numbers r = new Numbers(13);
        int refused = 0;
        for (int i = 0; i < 20000; i++) {
            Scene scene = new Scene(r, true);
            long seed = r.next(0, Integer.MAX_VALUE - 1);
            int calls = r.next(0, 20);
            Numbers numbers = new Numbers(seed);
            JudgeFirst x = afterCalls(scene, numbers, calls);
            int bytes = x.count(2);
            boolean tells = x.fault() != 0;
            long answer = anyCall(x, numbers);
            if (answer < 0 && x.count(2) == bytes && (x.fault() != 0) == tells) {
                refused++;
                Trace.alike(afterCalls(scene, new Numbers(seed), calls), x);
            }
        }
        due(1, refused > 4000 ? 1 : 0);
    }

    private static JudgeFirst afterCalls(Scene scene, Numbers numbers, int calls) {
        JudgeFirst x = scene.build();
        for (int k = 0; k < calls; k++) {
            anyCall(x, numbers);
        }
        return x;
    }

    private static void inBounds(JudgeFirst x) {
        boolean sound = x.rule(0) <= 4 && x.rule(1) <= 5 && x.rule(3) >= 0 && x.rule(3) <= 99 && x.rule(2) < 1000;
        for (int j = 0; j < x.rule(0); j++) {
            sound &= x.judge(j, 1) >= 1 && x.judge(j, 1) <= 20 && x.judge(j, 2) >= 0 && x.judge(j, 2) <= 99
                && x.judge(j, 3) >= 0 && x.judge(j, 4) >= 0;
        }
        due(1, sound ? 1 : 0);
    }
}
