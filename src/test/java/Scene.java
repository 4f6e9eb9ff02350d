import java.util.ArrayList;
import java.util.List;
import java.util.function.Consumer;

/** A made-up bench that can be set up anew as often as wanted, with its judges in any order, or without some. */
final class Scene {
    private static final String[] KINDS = {"plain", "young", "old", "hermit"};
    private static final String[] SORTS = {"gaol", "fine", "lash", "stocks"};

    final List<String> judges = new ArrayList<>();
    private final StringBuilder suits = new StringBuilder();
    private final List<Consumer<JudgeFirst>> steps = new ArrayList<>();

    Scene(Numbers r, boolean heard) {
        int many = r.next(0, 7) == 0 ? r.next(0, 4) : r.next(2, 4);
        int means = r.next(0, 2) == 0 ? 9 : 4;
        for (int j = 0; j < many; j++) {
            judges.add(KINDS[r.next(0, 3)] + " " + r.next(1, means) + " " + r.next(0, means) + ";");
        }
        int cases = r.next(0, 7) == 0 ? r.next(0, 5) : r.next(3, 5);
        for (int c = 0; c < cases; c++) {
            int least = r.next(1, 60);
            suits.append(SORTS[r.next(0, 3)]).append(' ').append(least).append(' ').append(r.next(least, 60))
                .append(' ').append(r.next(0, 2) == 0 ? r.next(0, 9) : 0).append(';');
        }
        suits.append("crime ").append(r.next(0, 2) == 0 ? r.next(80, 99) : r.next(0, 40)).append(';');
        for (int i = 0; i < 6 && heard; i++) {
            addStep(r);
        }
        int days = r.next(0, 3);
        steps.add(x -> x.days(days));
    }

    private void addStep(Numbers r) {
        int c = r.next(0, 4);
        int j = r.next(0, 3);
        int n = r.next(1, 60);
        switch (r.next(0, 7)) {
            case 0: steps.add(x -> x.days(n % 4)); break;
            case 1: steps.add(x -> x.appeal(c)); break;
            case 2: steps.add(x -> x.give(c, j, n)); break;
            case 3: steps.add(x -> x.see(j, c, n / 10)); break;
            case 4: steps.add(x -> x.see(j, c, x.tenth(j, Math.max(1, x.suit(c, 1))))); break;
            default: steps.add(x -> x.give(c, j, x.suit(c, 1))); break;
        }
    }

    JudgeFirst build() {
        return build(judges);
    }

    JudgeFirst build(List<String> those) {
        JudgeFirst x = Due.told(String.join("", those) + suits);
        steps.forEach(step -> step.accept(x));
        return x;
    }
}
