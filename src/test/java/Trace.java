import java.util.ArrayList;
import java.util.List;

/**
 * All that can be told of an object: what it answers, what its appeals give back, what its images, its tape and its
 * sheets hold. The object is used up by it, so it is asked of a twin, or of one that is done with.
 */
final class Trace {
    private final JudgeFirst x;
    private final List<String> told = new ArrayList<>();

    private Trace(JudgeFirst x) {
        this.x = x;
    }

    static List<String> of(JudgeFirst x) {
        Trace t = new Trace(x);
        t.add("fault", x.fault());
        t.add("torn", x.torn());
        for (int what = 0; what <= 5; what++) {
            t.add("count(" + what + ")", x.count(what));
        }
        t.court("now");
        for (int k = 0; k <= 1; k++) {
            int day = x.back(k);
            t.add("back(" + k + ")", day);
            if (day >= 0) {
                t.add("image " + k + " seen", x.count(0));
                t.court("image " + k);
            }
        }
        int[] lanes = t.lanes();
        t.add("text()", x.text());
        t.add("its fault", x.fault());
        t.bench("text");
        t.cells(lanes);
        return t.told;
    }

    /** Two objects that have to be alike, but for what is left out. */
    static void alike(JudgeFirst want, JudgeFirst got, String leftOut) {
        List<String> due = of(want);
        List<String> there = of(got);
        for (int i = 0; i < Math.min(due.size(), there.size()); i++) {
            boolean out = !leftOut.isEmpty() && due.get(i).startsWith(leftOut);
            if (!out && !due.get(i).equals(there.get(i))) {
                throw new AssertionError("due is " + due.get(i) + ", there is " + there.get(i));
            }
        }
        Due.due(due.size(), there.size());
    }

    static void alike(JudgeFirst want, JudgeFirst got) {
        alike(want, got, "");
    }

    private void add(String what, long answer) {
        told.add(what + " " + answer);
    }

    private void bench(String of) {
        for (int what = 0; what <= 6; what++) {
            add(of + " rule(" + what + ")", x.rule(what));
        }
        judges(of, 5);
        int suits = x.rule(1);
        for (int c = 0; c < suits; c++) {
            for (int what = 0; what <= 5; what++) {
                add(of + " suit(" + c + ", " + what + ")", x.suit(c, what));
            }
        }
    }

    private void judges(String of, int most) {
        int judges = x.rule(0);
        for (int j = 0; j < judges; j++) {
            for (int what = 0; what <= most; what++) {
                add(of + " judge(" + j + ", " + what + ")", x.judge(j, what));
            }
        }
    }

    /** The bench, what is seen, and what appeals of all that is heard give back. */
    private void court(String of) {
        bench(of);
        int judges = x.rule(0);
        for (int j = 0; j < judges; j++) {
            add(of + " kinds(" + j + ")", x.kinds(j));
        }
        int heard = x.rule(4);
        for (int c = 0; c < 5; c++) {
            if ((heard >> c & 1) == 1) {
                add(of + " terms(" + c + ")", x.terms(c, 0));
                add(of + " appeal(" + c + ")", x.appeal(c));
            }
        }
        if (heard != 0) {
            judges(of + " appealed", 4);
        }
    }

    /** The lane of each sheet; -1 if it is nothing. */
    private int[] lanes() {
        int[] lanes = {-1, -1, -1, -1};
        for (int k = 0; k < lanes.length; k++) {
            for (int lane = 0; lane <= 2; lane++) {
                x.read(k, lane, 40, 1);
                lanes[k] = x.torn() == 2 ? lane : lanes[k];
            }
            add("lane of sheet " + k, lanes[k]);
        }
        return lanes;
    }

    /** What the first three cells of each sheet give, and how many cells there are. */
    private void cells(int[] lanes) {
        x.end(0);
        Due.feed(x, "plain 9 0;gaol 1 60 0;");
        x.text();
        for (int k = 0; k < lanes.length; k++) {
            if (lanes[k] >= 0) {
                add("cells of sheet " + k, x.read(k, lanes[k], 0, 1));
                add("given by sheet " + k, x.rule(6));
                x.appeal(0);
                int low = 0;
                int high = 40;
                while (low < high) {
                    int at = (low + high) / 2;
                    boolean there = x.lay(k, at, 0) == 1;
                    low = there ? at + 1 : low;
                    high = there ? high : at;
                }
                add("size of sheet " + k, low);
            }
        }
    }
}
