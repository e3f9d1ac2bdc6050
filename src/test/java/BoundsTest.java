import java.util.Set;

/**
 * Each argument of each call at its bounds (promises 4 to 73): the least and the greatest that are good,
 * those beyond, one and far; and that a call that is refused, or only asks, changes nothing.
 */
public final class BoundsTest {
    private static final Check CHECK = new Check();
    /** Of these alone something comes. */
    private static final Set<String> CHANGES = Set.of("make", "square", "product", "inverse", "power", "symmetry",
        "drop", "tell", "moves", "undo");

    private interface Maker {
        CornerMaps make();
    }

    public static void main(String[] args) {
        for (Face.Call call : Face.calls()) {
            bounds(call, BoundsTest::some, "some");
            bounds(call, BoundsTest::full, "full");
            two(call);
            none(call);
            askingChangesNothing(call);
        }
        CHECK.due("calls", Face.calls().size(), 70);
        CHECK.end();
    }

    /** Three of each, two of the maps made by calls; the latest text has a fault, and the tape has bytes. */
    private static CornerMaps some() {
        CornerMaps x = Script.of("quad a 0 0 1 0 1 1 0 1;quad b 0 0 4 0 3 2 1 2;quad c 0 0 2 0 2 2 0 2;map f a b;"
            + "point 1 1 1;point 3 -1 2;point 1 0 0;");
        x.make(0, 2);
        x.inverse(0);
        return withFault(x);
    }

    /** Eight quads, sixteen maps, eight points, and as much to undo as can be. */
    private static CornerMaps full() {
        StringBuilder text = new StringBuilder(Plain.QUADS + Plain.MAPS);
        for (int p = 0; p < 8; p++) {
            text.append("point ").append(p).append(" 1 1;");
        }
        CornerMaps x = Script.of(text.toString());
        for (int i = 0; i < 5; i++) {
            x.drop(0);
            x.make(0, 0);
        }
        for (int m = 5; m < 16; m++) {
            x.make(0, m % 8);
        }
        return withFault(x);
    }

    private static CornerMaps withFault(CornerMaps x) {
        Script.read(x, "x");
        x.feed(1, 2, 3, 4, 5);
        return x;
    }

    private static void same(String what, String got, String want) {
        CHECK.due(what + " was " + got + ", due is " + want, got.equals(want) ? 1 : 0, 1);
    }

    private static boolean isRefused(String answer, Face.Call call) {
        for (int i = 0; i < call.kinds.length; i++) {
            if (answer.equals(call.refused(i))) {
                return true;
            }
        }
        return false;
    }

    private static void bounds(Face.Call call, Maker maker, String of) {
        for (int i = 0; i < call.kinds.length; i++) {
            long least = Face.least(call.kinds[i]);
            long most = Face.most(call.kinds[i], maker.make());
            for (long good : new long[] {least, most}) {
                int[] told = call.good();
                told[i] = (int) good;
                String answer = call.ask(maker.make(), told);
                CHECK.due(of + " " + call.shown(told) + " is good, answered " + answer,
                    isRefused(answer, call) ? 1 : 0, 0);
            }
            CornerMaps x = maker.make();
            String before = State.of(x);
            for (long bad : new long[] {least - 1, most + 1, Integer.MIN_VALUE, Integer.MAX_VALUE}) {
                if (bad >= least && bad <= most || bad > Integer.MAX_VALUE) {
                    continue;
                }
                int[] told = call.good();
                told[i] = (int) bad;
                same(of + " " + call.shown(told), call.ask(x, told), call.refused(i));
            }
            same(of + " behind " + call.name, State.of(x), before);
        }
    }

    /** Two arguments beyond their bounds: an IndexOutOfBoundsException goes ahead of the other one. */
    private static void two(Face.Call call) {
        CornerMaps x = some();
        for (int i = 0; i < call.kinds.length; i++) {
            for (int j = i + 1; j < call.kinds.length; j++) {
                int[] told = call.good();
                told[i] = Integer.MIN_VALUE;
                told[j] = Integer.MIN_VALUE;
                String due = call.refused(i).startsWith("No") ? call.refused(j) : call.refused(i);
                same(call.shown(told), call.ask(x, told), due);
            }
        }
    }

    /** A new object has no quad, map or point, not even the first. */
    private static void none(Face.Call call) {
        for (int i = 0; i < call.kinds.length; i++) {
            if ("qmp".indexOf(call.kinds[i]) >= 0) {
                CornerMaps x = new CornerMaps();
                same("new " + call.shown(call.good()), call.ask(x, call.good()), call.refused(i));
                same("new, behind " + call.name, State.of(x), State.of(new CornerMaps()));
            }
        }
    }

    private static void askingChangesNothing(Face.Call call) {
        if (CHANGES.contains(call.name)) {
            return;
        }
        for (Maker maker : new Maker[] {BoundsTest::some, BoundsTest::full, CornerMaps::new}) {
            CornerMaps x = maker.make();
            String before = State.of(x);
            String first = call.ask(x, call.good());
            same("asked again " + call.name, call.ask(x, call.good()), first);
            same("behind asking " + call.name, State.of(x), before);
        }
    }
}
