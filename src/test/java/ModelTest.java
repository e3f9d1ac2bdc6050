import java.lang.reflect.InvocationTargetException;
import java.lang.reflect.Method;
import java.util.ArrayList;
import java.util.List;

/** Runs of calls made by dice: every answer of the class is held against the model's. */
public final class ModelTest {
    /** What each call is told: q m p a number of a QUAD, MAP, POINT; x a number; others as below. */
    private static final String[] CALLS = {
        "fault h", "corner q k h", "map m t t", "point p t", "shape q", "dent q", "area q", "make q q", "square q s",
        "product m m", "inverse m", "power m e", "drop m", "tell x x x", "moves m", "undo", "image m x x x t",
        "before m x x x t", "line m x x x t", "horizon m t", "vanishing m t", "cut m p p", "cutSides m q", "kind m",
        "turn m", "order m", "same m m", "commute m m", "undoes m m", "stays m p", "points m t", "join p p t",
        "inLine p p p", "meet p p p p t", "share p p p p h", "fourth p p p t", "track m p n t", "cycle m p",
        "whole m w", "inside q p", "crossings q q", "diagonal q t t", "parallel m q", "shapeBy m q",
        "symmetries q d", "symmetry q o", "word m k", "generated l", "leads p p l", "pull m x x x t",
        "keepsLine m x x x", "side q k t", "turnOf p p p", "gap p p h", "middle p p t", "partner m",
        "cornerBy m q k t", "scale m h", "likeness q q h", "hits m q q", "goesTo m q", "farthest m", "biggest h",
        "kinds d", "pairs t", "spell m i", "kept m", "find q q", "size m", "count c",
    };
    private static final String[] CHANGES = {
        "make q q", "square q s", "product m m", "product m m", "inverse m", "inverse m", "power m e", "drop m",
        "drop m", "drop m", "drop m", "drop m", "tell x x x", "moves m", "moves m", "undo", "undo", "symmetry q o",
        "symmetry q o",
    };

    private static final String[] ROW_CALLS = {
        "share p p p p h", "share p p p p h", "fourth p p p t", "meet p p p p t", "inLine p p p", "turnOf p p p",
        "gap p p h", "middle p p t", "join p p t",
    };
    private static final String[] GREAT_CALLS = {
        "make q q", "make q q", "product m m", "inverse m", "drop m", "power m e", "before m x x x t",
        "line m x x x t", "pull m x x x t", "vanishing m t", "turn m", "order m", "commute m m", "undoes m m",
        "generated l", "word m k", "keepsLine m x x x", "farthest m", "cut m p p", "shapeBy m q", "parallel m q",
        "partner m", "size m", "biggest h", "pairs t", "spell m i", "cornerBy m q k t", "whole m w",
    };

    private final Check check = new Check();
    private final Dice dice;
    private final Texts texts;
    private CornerMaps x;
    private Model model;
    private String run;

    private ModelTest(long seed) {
        dice = new Dice(seed);
        texts = new Texts(dice);
    }

    public static void main(String[] args) throws Exception {
        int runs = args.length > 0 ? Integer.parseInt(args[0]) : 100;
        int first = args.length > 1 ? Integer.parseInt(args[1]) : 0;
        ModelTest test = new ModelTest(first + 1);
        for (int i = 0; i < runs; i++) {
            test.oneRun(i);
            test.textRun(i);
            test.callsOn("row " + i, test.texts.row(), ROW_CALLS);
            test.callsOn("great " + i, test.texts.great(), GREAT_CALLS);
        }
        test.check.end();
    }

    private void begin(String name) {
        x = new CornerMaps();
        model = new Model();
        run = name;
    }

    private void read(String text) {
        if (text.length() > 880) {
            return;
        }
        int n = text.length();
        for (int at = 0; at < n; at += 20) {
            int[] five = new int[5];
            for (int i = 0; i < 20; i++) {
                five[i / 4] = five[i / 4] << 8 | (at + i < n ? text.charAt(at + i) & 255 : 32);
            }
            check.due(run + " feed", x.feed(five[0], five[1], five[2], five[3], five[4]),
                model.feed(five[0], five[1], five[2], five[3], five[4]));
        }
        String what = run + " text <" + text + ">";
        check.due(what, x.text(n), model.text(n));
        check.due(what + " fault", x.fault(0), model.fault(0));
        check.due(what + " its place", x.fault(1), model.fault(1));
    }

    private void oneRun(int i) throws Exception {
        begin("run " + i);
        read(texts.any());
        for (int c = 0; c < 480; c++) {
            one(dice.oneIn(5) ? dice.of(CHANGES) : dice.of(CALLS));
        }
    }

    private void callsOn(String name, String text, String[] calls) throws Exception {
        begin(name);
        read(text);
        for (int c = 0; c < 150; c++) {
            one(dice.of(calls));
        }
    }

    /** Good and bad texts upon one another. */
    private void textRun(int i) throws Exception {
        begin("texts " + i);
        for (int c = 0; c < 20; c++) {
            String text = texts.any();
            read(dice.oneIn(4) ? text : texts.spoilt(text));
            for (int w = 0; w < 7; w++) {
                check.due(run + " count " + w, x.count(w), model.count(w));
            }
            one(dice.of(CHANGES));
        }
    }

    private void one(String call) throws Exception {
        String[] words = call.split(" ");
        Class<?>[] types = new Class<?>[words.length - 1];
        Object[] told = new Object[types.length];
        for (int i = 0; i < types.length; i++) {
            types[i] = int.class;
            told[i] = tell(words[i + 1].charAt(0));
        }
        String want = answer(Model.class.getMethod(words[0], types), model, told);
        String got = answer(CornerMaps.class.getMethod(words[0], types), x, told);
        List<Object> shown = new ArrayList<>(List.of(told));
        check.due(run + " " + words[0] + shown + " (" + got + " for " + want + ")", got.equals(want) ? 1 : 0, 1);
    }

    private static String answer(Method method, Object object, Object[] told) throws Exception {
        try {
            return "" + ((Number) method.invoke(object, told)).longValue();
        } catch (InvocationTargetException e) {
            Throwable thrown = e.getCause();
            if (thrown instanceof ArithmeticException) {
                throw new IllegalStateException(method + " " + List.of(told), thrown);
            }
            return thrown.getClass().getSimpleName();
        }
    }

    private int tell(char what) {
        if (dice.oneIn(60)) {
            return dice.of(new Integer[] {-1, -2, -3, 24, 25, 100, Integer.MAX_VALUE, Integer.MIN_VALUE});
        }
        boolean odd = dice.oneIn(30);
        switch (what) {
            case 'q': return number(model.count(1), odd);
            case 'm': return number(model.count(2), odd);
            case 'p': return number(model.count(3), odd);
            case 'h': return number(2, odd);
            case 't': return number(3, odd);
            case 'k': return number(4, odd);
            case 'd': return number(6, odd);
            case 'c': return number(7, odd);
            case 'w': return number(dice.oneIn(3) ? 10 : 4, odd);
            case 'e': return number(dice.oneIn(3) ? 13 : 4, odd);
            case 'o': return number(24, odd);
            case 's': return number(20, false) + (odd ? 0 : 1);
            case 'n': return number(dice.oneIn(2) ? 21 : 4, odd);
            case 'l': return number(3, odd) + 1;
            case 'i': return dice.from(-2, 60);
            default: return coordinate();
        }
    }

    private int number(int all, boolean odd) {
        return odd ? (dice.oneIn(2) ? -1 : all) : all == 0 ? 0 : dice.below(all);
    }

    private int coordinate() {
        int kind = dice.below(20);
        if (kind == 0) {
            return dice.of(new Integer[] {9999, -9999, 10000, -10000});
        }
        return kind < 4 ? dice.from(-9999, 9999) : kind < 9 ? 0 : dice.from(-5, 5);
    }
}
