import java.lang.reflect.InvocationTargetException;
import java.lang.reflect.Method;
import java.util.ArrayList;
import java.util.List;

/** The face's calls: what each argument may be, and what is due if one is beyond that. */
final class Face {
    /**
     * Behind the name a letter for each argument (see least and most); behind the colon what is due if
     * one is beyond its bounds, or for each argument what is thrown: Index.. or NoSuchElement..Exception.
     */
    private static final String[] ALL = {
        "fault h: -1", "corner q k h: I I N", "map m t t: I N N", "point p t: I N", "shape q: -1", "dent q: -1",
        "area q: -100000", "make q q: -1", "square q s: -1", "product m m: -1", "inverse m: -1", "power m e: -1",
        "drop m: -1", "tell x x x: -1", "moves m: -1", "undo: -1", "image m x x x t: NO", "before m x x x t: NO",
        "line m x x x t: NO", "horizon m t: NO", "vanishing m t: NO", "cut m p p: -1", "cutSides m q: -1",
        "kind m: -1", "turn m: 0", "order m: -1", "same m m: -1", "commute m m: -1", "undoes m m: -1",
        "stays m p: -1", "points m t: -1", "join p p t: NO", "inLine p p p: -1", "meet p p p p t: NO",
        "share p p p p h: NO", "fourth p p p t: NO", "track m p n t: NO", "cycle m p: -1", "whole m w: -1",
        "inside q p: -1", "crossings q q: -1", "diagonal q t t: NO", "parallel m q: -1", "shapeBy m q: -1",
        "symmetries q d: -1", "symmetry q o: -1", "word m b: -1", "generated g: -1", "leads p p l: -1",
        "pull m x x x t: NO", "keepsLine m x x x: -1", "side q k t: NO", "turnOf p p p: -3", "gap p p h: NO",
        "middle p p t: NO", "partner m: -1", "cornerBy m q k t: NO", "scale m h: NO", "likeness q q h: -1",
        "hits m q q: -1", "goesTo m q: -1", "farthest m: NO", "biggest h: -1", "kinds d: -1", "pairs t: -1",
        "spell m b: -1", "kept m: -1", "find q q: -1", "size m: -1", "count c: -1",
    };

    private Face() {
    }

    /** All calls but feed and text. */
    static List<Call> calls() {
        List<Call> calls = new ArrayList<>();
        for (String told : ALL) {
            calls.add(new Call(told));
        }
        return calls;
    }

    static final class Call {
        final String name;
        final char[] kinds;
        private final String[] refused;
        private final Method method;

        Call(String told) {
            String[] halves = told.split(": ");
            String[] words = halves[0].split(" ");
            name = words[0];
            kinds = new char[words.length - 1];
            for (int i = 0; i < kinds.length; i++) {
                kinds[i] = words[i + 1].charAt(0);
            }
            refused = halves[1].split(" ");
            Class<?>[] types = new Class<?>[kinds.length];
            java.util.Arrays.fill(types, int.class);
            try {
                method = CornerMaps.class.getMethod(name, types);
            } catch (NoSuchMethodException e) {
                throw new IllegalArgumentException(told, e);
            }
        }

        /** What is due if this argument is beyond its bounds. */
        String refused(int argument) {
            String what = refused[refused.length == 1 ? 0 : argument];
            switch (what) {
                case "NO": return "" + Long.MIN_VALUE;
                case "I": return "IndexOutOfBoundsException";
                case "N": return "NoSuchElementException";
                default: return what;
            }
        }

        String ask(CornerMaps x, int... told) {
            Object[] boxes = new Object[told.length];
            for (int i = 0; i < told.length; i++) {
                boxes[i] = told[i];
            }
            try {
                return "" + ((Number) method.invoke(x, boxes)).longValue();
            } catch (InvocationTargetException e) {
                return e.getCause().getClass().getSimpleName();
            } catch (IllegalAccessException e) {
                throw new IllegalStateException(e);
            }
        }

        /** Arguments that are all good: numbers of the first ones, and 1 2 3 as a POINT or LINE. */
        int[] good() {
            int[] told = new int[kinds.length];
            for (int i = 0; i < told.length; i++) {
                told[i] = kinds[i] == 'x' ? i : kinds[i] == 's' || kinds[i] == 'l' || kinds[i] == 'g' ? 1 : 0;
            }
            return told;
        }

        String shown(int... told) {
            return name + java.util.Arrays.toString(told);
        }
    }

    static long least(char kind) {
        switch (kind) {
            case 'x': return -9999;
            case 's': case 'g': case 'l': return 1;
            case 'b': return -1;
            default: return 0;
        }
    }

    /** q m p a number of a QUAD, MAP, POINT; b NONE or a place in a row, however far. */
    static long most(char kind, CornerMaps x) {
        switch (kind) {
            case 'q': return x.count(1) - 1;
            case 'm': return x.count(2) - 1;
            case 'p': return x.count(3) - 1;
            case 'h': return 1;
            case 't': case 'g': return 2;
            case 'k': case 'l': return 3;
            case 'd': return 5;
            case 'c': return 6;
            case 'w': return 9;
            case 'e': return 12;
            case 's': case 'n': return 20;
            case 'o': return 23;
            case 'x': return 9999;
            case 'b': return Integer.MAX_VALUE;
            default: throw new IllegalArgumentException("" + kind);
        }
    }
}
