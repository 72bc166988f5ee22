import java.util.ArrayList;
import java.util.List;

/**
 * Reads what a caller can see of an object, each call with its answer. It is parted in two, because
 * an object is used for at most 512 calls.
 */
enum Look {
    /** Ways, and packets on links: at most 279 calls. */
    NETWORK {
        @Override
        List<String> at(OverlayNet x) {
            List<String> seen = new ArrayList<>();
            seen.add("now() = " + x.now());
            int packets = x.packets();
            seen.add("packets() = " + packets);
            seen.add("dropped() = " + x.dropped());
            for (int i = 0; i < 24; i++) {
                int node = i / 4;
                int leaf = i % 4;
                seen.add("distance(" + node + ", " + leaf + ") = " + x.distance(node, leaf));
                for (int k = 0; k < 3; k++) {
                    int one = k;
                    seen.add(answer("hop(" + node + ", " + leaf + ", " + k + ")", () -> x.hop(node, leaf, one)));
                }
            }
            for (int i = 0; i < 3 * packets; i++) {
                int k = i / 3;
                int w = 3 + i % 3;
                seen.add("header(" + k + ", " + w + ") = " + x.header(k, w));
            }
            return seen;
        }
    },

    /** Tables, and what machines have: 296 calls. */
    MACHINES {
        @Override
        List<String> at(OverlayNet x) {
            List<String> seen = new ArrayList<>();
            for (int i = 0; i < 96; i++) {
                int leaf = i / 24;
                int machine = i / 3 % 8;
                int what = i % 3;
                seen.add(answer("entry(" + leaf + ", " + machine + ", " + what + ")",
                        () -> x.entry(leaf, machine, what)));
            }
            for (int i = 0; i < 64; i++) {
                int machine = i / 8;
                int other = i % 8;
                String pair = "(" + machine + ", " + other + ")";
                seen.add(answer("known" + pair, () -> x.known(machine, other)));
                seen.add(answer("received" + pair, () -> x.received(machine, other)));
                seen.add(answer("value" + pair, () -> x.value(machine, other)));
            }
            for (int i = 0; i < 8; i++) {
                int machine = i;
                seen.add(answer("row(" + machine + ")", () -> x.row(machine)));
            }
            return seen;
        }
    };

    interface Question {
        int ask();
    }

    abstract List<String> at(OverlayNet x);

    static String answer(String what, Question question) {
        try {
            return what + " = " + question.ask();
        } catch (RuntimeException e) {
            return what + " throws " + e.getClass().getSimpleName();
        }
    }
}
