import java.util.ArrayDeque;
import java.util.ArrayList;
import java.util.List;

/** Terms 4 and promise 19: what can be undone, the latest first, sixteen at most; and what can't. */
public final class UndoTest {
    private static final Check CHECK = new Check();

    private interface Deed {
        int on(CornerMaps x);
    }

    /** Each kind of deed: what makes, drops, tells and moves. */
    private static final List<Deed> DEEDS = List.of(x -> x.make(0, 1), x -> x.square(0, 3), x -> x.product(0, 1),
        x -> x.inverse(0), x -> x.power(0, 0), x -> x.symmetry(0, 1), x -> x.drop(0), x -> x.tell(1, 2, 3),
        x -> x.moves(0));
    /** What is refused, of each kind: no such one, LARGE, full, beyond. */
    private static final List<Deed> REFUSED = List.of(x -> x.make(0, 9), x -> x.square(0, 21), x -> x.product(99, 0),
        x -> x.inverse(-1), x -> x.power(0, 13), x -> x.symmetry(0, 24), x -> x.drop(99), x -> x.tell(0, 0, 0),
        x -> x.tell(0, 0, 10000), x -> x.moves(99));

    public static void main(String[] args) {
        eachDeed();
        refusedOnes();
        fullOnes();
        sixteen();
        seventeenth();
        dropsComeBack();
        textForgets();
        longRun();
        CHECK.end();
    }

    private static CornerMaps some() {
        return Script.of("quad a 0 0 1 0 1 1 0 1;quad b 1 0 2 0 2 1 1 1;map f a b;map g b a;map h a a;"
            + "point 1 1 1;point 1 0 0;");
    }

    private static void same(String what, CornerMaps x, String want) {
        String got = State.of(x);
        CHECK.due(what + ": " + got + ", due is " + want, got.equals(want) ? 1 : 0, 1);
    }

    private static void eachDeed() {
        for (int i = 0; i < DEEDS.size(); i++) {
            CornerMaps x = some();
            String before = State.of(x);
            CHECK.due("deed " + i, DEEDS.get(i).on(x) >= 0 ? 1 : 0, 1);
            CHECK.due("one to undo " + i, x.count(5), 1);
            CHECK.due("no more " + i, x.undo(), 0);
            same("as before deed " + i, x, before);
            CHECK.due("nothing to undo " + i, x.undo(), -1);
            same("still as before deed " + i, x, before);
        }
        CornerMaps x = new CornerMaps();
        CHECK.due("a new object has none", x.undo(), -1);
        CHECK.due("what a text told is none", some().undo(), -1);
    }

    private static void refusedOnes() {
        for (int i = 0; i < REFUSED.size(); i++) {
            CornerMaps x = some();
            x.tell(5, 5, 5);
            String before = State.of(x);
            CHECK.due("refused " + i, REFUSED.get(i).on(x) < 0 ? 1 : 0, 1);
            same("refused " + i, x, before);
            CHECK.due("the one ahead of it", x.undo(), 0);
            CHECK.due("is undone", x.count(3), 2);
        }
    }

    /** With sixteen maps and eight points nothing comes, and nothing is there to undo of it. */
    private static void fullOnes() {
        CornerMaps x = some();
        for (int m = 3; m < 16; m++) {
            x.power(0, m % 3);
        }
        for (int p = 2; p < 8; p++) {
            x.tell(p, p, 1);
        }
        CHECK.due("maps", x.count(2), 16);
        CHECK.due("points", x.count(3), 8);
        CHECK.due("sixteen to undo", x.count(5), 16);
        String before = State.of(x);
        for (int i = 0; i < 6; i++) {
            CHECK.due("full " + i, DEEDS.get(i).on(x), -3);
        }
        CHECK.due("ninth", x.tell(1, 2, 3), -2);
        same("full", x, before);
    }

    private static void sixteen() {
        for (int deeds = 14; deeds <= 18; deeds++) {
            CornerMaps x = some();
            List<String> states = new ArrayList<>();
            for (int i = 0; i < deeds; i++) {
                states.add(State.of(x));
                CHECK.due("moved", x.moves(0), 1);
                CHECK.due("so many of " + deeds, x.count(5), Math.min(16, i + 1));
            }
            int there = Math.min(16, deeds);
            for (int i = 1; i <= there; i++) {
                CHECK.due("undo " + i + " of " + deeds, x.undo(), there - i);
                String then = states.get(deeds - i).replaceAll("counts( \\d+){7}", "");
                CHECK.due("as it was", State.of(x).replaceAll("counts( \\d+){7}", "").equals(then) ? 1 : 0, 1);
            }
            CHECK.due("the eldest is forgotten", x.undo(), -1);
            CHECK.due("where it is", x.point(0, 0), 1 + deeds - there);
        }
    }

    /** The seventeenth deed takes the eldest's place, of whatever kind the two are. */
    private static void seventeenth() {
        for (int eldest = 0; eldest < DEEDS.size(); eldest++) {
            for (int latest = 0; latest < DEEDS.size(); latest++) {
                CornerMaps x = some();
                DEEDS.get(eldest).on(x);
                String first = State.of(x).replaceAll(" 1 0 quad", " 0 0 quad");
                for (int i = 0; i < 15; i++) {
                    x.moves(0);
                }
                CHECK.due("sixteen", x.count(5), 16);
                CHECK.due("one more", DEEDS.get(latest).on(x) >= 0 ? 1 : 0, 1);
                CHECK.due("sixteen still", x.count(5), 16);
                for (int left = 15; left >= 0; left--) {
                    CHECK.due("undo", x.undo(), left);
                }
                CHECK.due("no more", x.undo(), -1);
                same("behind deed " + eldest + " and " + latest, x, first);
            }
        }
    }

    private static void dropsComeBack() {
        for (int at = 0; at < 16; at++) {
            CornerMaps x = some();
            for (int m = 3; m < 16; m++) {
                x.square(m % 2, m);
            }
            String before = State.of(x).replaceAll("counts( \\d+){7}", "");
            CHECK.due("drop " + at, x.drop(at), 15);
            CHECK.due("another", x.drop(at == 15 ? 14 : at), 14);
            CHECK.due("back", x.undo(), 14);
            CHECK.due("back", x.undo(), 13);
            CHECK.due("as before", State.of(x).replaceAll("counts( \\d+){7}", "").equals(before) ? 1 : 0, 1);
        }
    }

    /** A good text leaves nothing to undo; one with a FAULT, or one that there isn't, leaves all. */
    private static void textForgets() {
        CornerMaps x = some();
        for (int i = 0; i < 20; i++) {
            x.moves(0);
        }
        CHECK.due("a fault", Script.read(x, "point 0 0 0;"), -1);
        CHECK.due("sixteen still", x.count(5), 16);
        CHECK.due("undo", x.undo(), 15);
        CHECK.due("not so many", x.text(1), -2);
        CHECK.due("fifteen still", x.count(5), 15);
        CHECK.due("a good one", x.text(0), 0);
        CHECK.due("nothing to undo", x.count(5), 0);
        CHECK.due("nothing to undo", x.undo(), -1);
        CHECK.due("a point", x.tell(1, 1, 1), 0);
        CHECK.due("undone", x.undo(), 0);
        CHECK.due("no point", x.count(3), 0);
        CHECK.due("no more", x.undo(), -1);
    }

    /** Deeds of all kinds and undos among them, held against all states that there were. */
    private static void longRun() {
        Dice dice = new Dice(4);
        for (int run = 0; run < 40; run++) {
            CornerMaps x = some();
            ArrayDeque<String> states = new ArrayDeque<>();
            for (int i = 0; i < 150; i++) {
                String before = State.of(x).replaceAll("counts( \\d+){7}", "");
                if (dice.oneIn(run % 5 + 2)) {
                    CHECK.due("undo", x.undo(), states.size() - 1);
                    String then = states.isEmpty() ? before : states.removeLast();
                    CHECK.due("then", State.of(x).replaceAll("counts( \\d+){7}", "").equals(then) ? 1 : 0, 1);
                } else if (dice.of(DEEDS.toArray(new Deed[0])).on(x) >= 0) {
                    states.addLast(before);
                    if (states.size() > 16) {
                        states.removeFirst();
                    }
                }
                CHECK.due("to undo", x.count(5), states.size());
            }
        }
    }
}
