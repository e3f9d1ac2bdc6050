/** Promises 50, 51, 69 and 73: words, generated maps, maps as bytes, counts. */
public final class WordTest {
    private static final Check CHECK = new Check();

    public static void main(String[] args) {
        wordOfOne();
        wordOfTwo();
        wordOfThree();
        wordLarge();
        generated();
        spell();
        count();
        CHECK.end();
    }

    private static void row(String what, CornerMaps x, int m, int... want) {
        CHECK.due(what + " length", x.word(m, -1), want.length);
        for (int k = 0; k < want.length; k++) {
            CHECK.due(what + " " + k, x.word(m, k), want[k]);
        }
        for (int k = want.length; k < 4; k++) {
            CHECK.due(what + " " + k, x.word(m, k), -2);
        }
        CHECK.due(what + " most", x.word(m, Integer.MAX_VALUE), -2);
        CHECK.due(what + " -2", x.word(m, -2), -1);
    }

    private static void none(String what, CornerMaps x, int m) {
        for (int k = -1; k < 4; k++) {
            CHECK.due(what + " " + k, x.word(m, k), -2);
        }
        CHECK.due(what + " -2", x.word(m, -2), -1);
    }

    private static void wordOfOne() {
        CornerMaps x = Plain.with("");
        for (int m = 0; m < 5; m++) {
            none("of no others", x, m);
        }
        x.power(Plain.M_TRAP, 1);
        x.power(Plain.M_TRAP, 1);
        row("the first like it", x, 5, Plain.M_TRAP);
        row("not itself", x, Plain.M_TRAP, 5);
        CHECK.due("no map", x.word(7, 0), -1);
        CHECK.due("no map", x.word(7, -1), -1);
        CHECK.due("map -1", x.word(-1, 0), -1);
        CHECK.due("no maps", new CornerMaps().word(0, -1), -1);
    }

    private static void wordOfTwo() {
        CornerMaps x = Plain.with("");
        x.product(Plain.M_SHIFT, Plain.M_TRAP);
        row("two", x, 5, Plain.M_SHIFT, Plain.M_TRAP);
        x.product(Plain.M_TURN, Plain.M_TURN);
        row("one twice", x, 6, Plain.M_TURN, Plain.M_TURN);
        x.product(Plain.M_TWICE, Plain.M_TURN);
        row("of either order the first", x, 7, Plain.M_TWICE, Plain.M_TURN);
        x.inverse(Plain.M_SHIFT);
        row("by the new ones, too", x, Plain.M_TRAP, 8, 5);
        CHECK.due("nothing is made of it", x.count(2), 9);
    }

    private static void wordOfThree() {
        CornerMaps x = Plain.with("");
        x.power(Plain.M_TURN, 3);
        row("thrice", x, 5, Plain.M_TURN, Plain.M_TURN, Plain.M_TURN);
        x.product(Plain.M_TRAP, Plain.M_SHIFT);
        x.product(6, Plain.M_TURN);
        x.drop(6);
        row("three", x, 6, Plain.M_TRAP, Plain.M_SHIFT, Plain.M_TURN);
        CornerMaps v = Plain.with("");
        v.product(Plain.M_SHIFT, Plain.M_TURN);
        v.product(5, Plain.M_TRAP);
        v.drop(5);
        row("the first one last", v, 5, Plain.M_SHIFT, Plain.M_TURN, Plain.M_TRAP);
        CornerMaps w = Script.of("quad a 0 0 1 0 1 1 0 1;quad b 0 0 2 0 2 1 0 1;quad c 0 0 5 0 5 1 0 1;map b a b;map c a c;");
        none("8 isn't 5", w, 1);
        CornerMaps y = Script.of("quad a 0 0 1 0 1 1 0 1;quad b 1 0 2 0 2 1 1 1;map s a b;");
        y.power(0, 4);
        none("a fourth power", y, 1);
        y.power(0, 2);
        row("of a second", y, 1, 2, 2);
        y.drop(1);
        y.power(0, 5);
        row("of three of both", y, 2, 0, 1, 1);
    }

    /** Maps that grow by powers of 20, of which the 7th and the -7th are LARGE. */
    private static CornerMaps powers(int... exponents) {
        CornerMaps x = Script.of("quad a 0 0 1 0 1 1 0 1;quad b 0 0 20 0 20 20 0 20;map b a b;");
        for (int exponent : exponents) {
            int m = x.power(0, Math.abs(exponent));
            if (exponent < 0) {
                x.inverse(m);
                x.drop(m);
            }
        }
        x.drop(0);
        return x;
    }

    private static void wordLarge() {
        row("the first of two", powers(6, 3, 2, -3, -2, 4), 5, 0, 4);
        none("no such sum", powers(6, -6, 5), 2);
        // -6 5 4 and -6 4 5 go ahead, but 5 and 4 together are LARGE.
        row("not the LARGE way", powers(-6, 5, 4, 3), 3, 1, 0, 2);
        // Only what the last two come to counts: here the first two are LARGE together.
        row("the first two LARGE", powers(5, 4, -6, 3), 3, 0, 1, 2);
        none("the only way is LARGE", powers(6, -5, -4, -3), 0);
        row("no other MAP needed", powers(-3, 6, 3), 2, 0, 1);
    }

    private static void generated() {
        CornerMaps x = Plain.with("");
        CHECK.due("five unlike", x.generated(1), 5);
        x.power(Plain.M_TRAP, 1);
        CHECK.due("one again", x.generated(1), 5);
        CHECK.due("n 0", x.generated(0), -1);
        CHECK.due("n 3", x.generated(3), -1);
        CHECK.due("no maps", new CornerMaps().generated(1), 0);
        CHECK.due("no products", new CornerMaps().generated(2), 0);
        CornerMaps turns = Script.of("quad a 0 0 1 0 1 1 0 1;quad b 0 0 0 1 -1 1 -1 0;map t a b;");
        CHECK.due("a turn", turns.generated(1), 1);
        CHECK.due("and half a turn", turns.generated(2), 2);
        turns.power(0, 2);
        CHECK.due("and three more", turns.generated(2), 4);
        turns.power(0, 3);
        CHECK.due("no more", turns.generated(2), 4);
        // Three, of which two commute: 3 and 3 squares and 6 less 1 mixed.
        CornerMaps y = Script.of("quad a 0 0 1 0 1 1 0 1;quad b 3 1 4 1 4 2 3 2;quad c 5 0 6 0 6 1 5 1;"
            + "quad d 0 0 2 0 2 2 0 2;map b a b;map c a c;map d a d;");
        CHECK.due("three", y.generated(2), 3 + 3 + 5);
        CHECK.due("none comes", y.count(2), 3);
        // The powers 8 and 9 of ten, LARGE together, count as well.
        CornerMaps z = Script.of("quad a 0 0 1 0 1 1 0 1;quad b 0 0 10 0 10 10 0 10;map t a b;");
        z.power(0, 8);
        z.power(0, 9);
        CHECK.due("LARGE ones", z.generated(2), 8);
    }

    private static void spell() {
        CornerMaps x = Plain.with("");
        String trap = "4 2 0 0 4 0 0 1 1";
        CHECK.due("bytes", x.spell(Plain.M_TRAP, -1), trap.length());
        for (int i = 0; i < trap.length(); i++) {
            CHECK.due("byte " + i, x.spell(Plain.M_TRAP, i), trap.charAt(i));
        }
        x.inverse(Plain.M_TRAP);
        String back = "2 -1 0 0 2 0 0 -2 8";
        CHECK.due("bytes", x.spell(5, -1), back.length());
        for (int i = 0; i < back.length(); i++) {
            CHECK.due("byte " + i, x.spell(5, i), back.charAt(i));
        }
        CHECK.due("behind", x.spell(5, back.length()), -2);
        CHECK.due("far behind", x.spell(5, Integer.MAX_VALUE), -2);
        CHECK.due("below", x.spell(5, -2), -1);
        CHECK.due("no map", x.spell(6, 0), -1);
        CHECK.due("no map", x.spell(6, -1), -1);
        CHECK.due("map -1", x.spell(-1, 0), -1);
        CornerMaps y = Script.of("quad a 0 0 1 0 1 1 0 1;quad b 0 0 10 0 10 10 0 10;map t a b;");
        y.power(0, 9);
        String most = "1000000000 0 0 0 1000000000 0 0 0 1";
        CHECK.due("ten digits", y.spell(1, -1), most.length());
        for (int i = 0; i < most.length(); i++) {
            CHECK.due("byte " + i, y.spell(1, i), most.charAt(i));
        }
    }

    private static void count() {
        CornerMaps x = Plain.with("point 1 1 1;point 1 0 0;");
        int[] due = {15, 8, 5, 2, 1, 0, 0};
        for (int what = 0; what < 7; what++) {
            CHECK.due("count " + what, x.count(what), due[what]);
        }
        x.feed(0, 0, 0, 0, 0);
        x.tell(5, 5, 5);
        x.make(0, 0);
        x.drop(0);
        int[] then = {15, 8, 5, 3, 2, 3, 20};
        for (int what = 0; what < 7; what++) {
            CHECK.due("then " + what, x.count(what), then[what]);
        }
        CHECK.due("count 7", x.count(7), -1);
        CHECK.due("count -1", x.count(-1), -1);
    }
}
