import java.util.ArrayList;
import java.util.List;
import java.util.function.Consumer;
import java.util.function.ToLongFunction;

/**
 * A refused call changes nothing that a later call shows: of two objects with the
 * same calls behind them one gets the refused call, too; then both show all.
 */
final class Twins {
    /** An object is used for 512 calls at most; what leads up to it, and what is not shown, takes fewer than 160. */
    private static final int SHOWN_MOST = 350;

    private final HummingSet set;
    private final List<Long> shown = new ArrayList<>();

    private Twins(HummingSet set) {
        this.set = set;
    }

    static void refused(String told, Consumer<HummingSet> ahead, ToLongFunction<HummingSet> call, long want) {
        HummingSet asked = new HummingSet();
        ahead.accept(asked);
        Check.due(told, call.applyAsLong(asked), want);
        HummingSet other = new HummingSet();
        ahead.accept(other);
        same(told + " changes nothing", asked, other);
    }

    /** Shows all of both, which takes them as far as an empty TEXT. */
    static void same(String told, HummingSet one, HummingSet other) {
        List<Long> a = new Twins(one).all();
        List<Long> b = new Twins(other).all();
        Check.holds(told + ": " + a + " and " + b, a.equals(b));
        Check.holds("shown by " + a.size() + " calls", a.size() <= SHOWN_MOST);
    }

    private List<Long> all() {
        whatIsLaid();
        whatIsHeard();
        whatIsPossible();
        for (int i = 0; i < 3; i++) {
            show(set.back());
            whatIsPossible();
        }
        show(set.forget());
        show(set.possible(1));
        show(set.fault());
        show(set.lay());
        show(set.possible(1));
        show(set.hum(1, 0, 30));
        show(set.part(0, 2));
        show(set.wipe());
        show(set.fault());
        return shown;
    }

    private void show(long answer) {
        shown.add(answer);
    }

    private int stages() {
        return set.count(0);
    }

    private int parts() {
        return set.count(1);
    }

    private void whatIsLaid() {
        int parts = parts();
        for (int what = 0; what < 5; what++) {
            show(set.count(what));
        }
        for (int p = 0; p < parts; p++) {
            for (int what = 0; what < 6; what++) {
                show(set.part(p, what));
            }
            show(set.volts(p, 0));
            show(set.volts(p, 1));
            show(set.goes(p, 3));
        }
        show(set.safe());
        show(set.howls());
        show(set.nextToGo(5));
        show(set.set(17));
    }

    private void whatIsHeard() {
        int stages = stages();
        int parts = parts();
        int all = (1 << parts) - 1;
        for (int p = 0; p < parts; p++) {
            show(set.heard(1 << p, 30, 1));
            show(set.ask(all, 3, p, 30));
        }
        for (int t = 0; t < 3; t++) {
            show(set.hum(0, t, 30));
            show(set.hum(all, t, 0));
        }
        for (int s = 0; s < stages; s++) {
            show(set.in(all, s, 0, 30));
            show(set.ask(all, 1, s, 30));
            show(set.ask(all, 2, s, 30));
            show(set.risk(1, s));
            show(set.risk(4, s));
        }
        show(set.heard(all, 30, 0));
        show(set.louder(all));
    }

    private void whatIsPossible() {
        int parts = parts();
        show(set.count(3));
        show(set.count(4));
        show(set.possible(0));
        show(set.possible(1));
        show(set.likeliest());
        for (int p = 0; p < parts; p++) {
            show(set.odds(p, 0));
            show(set.odds(p, 1));
        }
        for (int what = 0; what < 3; what++) {
            show(set.next(30, what));
        }
        show(set.next(0, 2));
        show(set.change(100, 0));
        show(set.change(50, 1));
        show(set.oneByOne(0));
        show(set.oneByOne(1));
    }
}
