import java.util.function.Supplier;

/**
 * Every call with every row of edge numbers, in several states: it throws just what the document names, the one that
 * is named first, and changes nothing then; or it throws nothing.
 */
public final class RefusalTests {
    private static final int MIN = Integer.MIN_VALUE;
    private static final int MAX = Integer.MAX_VALUE;
    private static final int[] EDGES = {MIN, MIN + 1, -9, -2, -1, 0, 1, 2, 3, 4, 5, 6, 7, 8, 9, 10, 15, 16, 17, 19, 20, 30, 31, 200, 201,
        65536, MAX - 1, MAX};
    private static final int[] FEW = {MIN, -1, 0, 1, 3, 4, 7, 8, 16, 17, MAX};
    private static final int[] SIGNS = {-2, -1, 0, 1, 5, 6};
    private static final Class<?> INDEX = IndexOutOfBoundsException.class;
    private static final Class<?> ARGUMENT = IllegalArgumentException.class;
    private static final Class<?> STATE = IllegalStateException.class;
    private static String state = "";
    private static int refusals = 0;
    private static int answers = 0;
    private static int wrong = 0;
    private static Supplier<Rangecodermill> maker;
    /** Only refused calls are made on it, so it stays as it is. */
    private static Rangecodermill steady;
    private static long digest;
    private static int signs;
    private static int typed;
    private static int kept;

    private interface Call {
        void on(Rangecodermill x);
    }

    public static void main(String[] args) {
        inState("new", Rangecodermill::new);
        inState("full", () -> made(6, 16, 8));
        inState("two signs, 15 typed, one kept", () -> made(2, 15, 1));
        inState("four signs, 10 typed, 7 kept", () -> made(4, 10, 7));
        inState("burnt and rubbed", RefusalTests::burnt);
        System.out.println(refusals + " refusals, " + answers + " answers, " + wrong + " wrong");
        if (wrong != 0) {
            System.exit(1);
        }
    }

    private static Rangecodermill made(int signs, int typed, int kept) {
        Rangecodermill x = new Rangecodermill();
        x.signs(signs);
        x.weight(1, 30);
        for (int n = 0; n < typed; n++) {
            x.say(n * n % signs, -1, -1, -1, -1, -1);
        }
        for (int n = 0; n < kept; n++) {
            x.keep(n % 4);
        }
        return x;
    }

    private static Rangecodermill burnt() {
        Rangecodermill x = made(6, 16, 8);
        x.burn();
        x.rub(16);
        return x;
    }

    private static void inState(String name, Supplier<Rangecodermill> make) {
        state = name;
        maker = make;
        steady = make.get();
        digest = steady.digest();
        signs = steady.house(0);
        typed = steady.house(1);
        kept = steady.house(7);
        callsWithOne();
        callsWithTwo();
        callsWithThree();
        says();
    }

    private static void check(String what, Class<?> due, Call call) {
        Rangecodermill x = due == null ? maker.get() : steady;
        Class<?> thrown = null;
        try {
            call.on(x);
        } catch (RuntimeException e) {
            thrown = e.getClass();
        }
        if (thrown != due || due != null && x.digest() != digest) {
            wrong++;
            System.out.println(state + ": " + what + " throws " + thrown + ", due is " + due
                + (thrown == due ? ", but something changed" : ""));
        }
        refusals += due == null ? 0 : 1;
        answers += due == null ? 1 : 0;
    }

    private static boolean within(int number, int least, int most) {
        return number >= least && number <= most;
    }

    private static boolean isModel(int number) {
        return within(number, 0, 3);
    }

    private static Class<?> argument(boolean isFine) {
        return isFine ? null : ARGUMENT;
    }

    private static Class<?> index(boolean isFine, Class<?> otherwise) {
        return isFine ? otherwise : INDEX;
    }

    private static boolean areFewTexts(int length) {
        return within(length, 0, 4) && Math.pow(signs, length) <= 100;
    }

    private static void callsWithOne() {
        for (int a : EDGES) {
            check("signs(" + a + ")", argument(within(a, 2, 6)), x -> x.signs(a));
            check("rub(" + a + ")", argument(a >= 0), x -> x.rub(a));
            check("keep(" + a + ")", isModel(a) ? kept == 8 ? STATE : null : ARGUMENT, x -> x.keep(a));
            check("house(" + a + ")", argument(within(a, 0, 9)), x -> x.house(a));
            check("weightOf(" + a + ")", index(within(a, 0, signs - 1), null), x -> x.weightOf(a));
            check("steps(" + a + ")", argument(isModel(a)), x -> x.steps(a));
            check("bits(" + a + ")", argument(isModel(a)), x -> x.bits(a));
            check("cost(" + a + ")", argument(isModel(a)), x -> x.cost(a));
            check("bitsOf(" + a + ")", index(within(a, 0, kept - 1), null), x -> x.bitsOf(a));
            for (boolean is : new boolean[] {false, true}) {
                check("bound(" + a + ", " + is + ")", argument(isModel(a)), x -> x.bound(a, is));
                check("least(" + a + ", " + is + ")", argument(isModel(a)), x -> x.least(a, is));
            }
        }
    }

    private static void callsWithTwo() {
        for (int a : EDGES) {
            for (int b : EDGES) {
                String row = "(" + a + ", " + b + ")";
                check("weight" + row, index(within(a, 0, signs - 1), argument(within(b, 1, 30))), x -> x.weight(a, b));
                check("growth" + row, argument(within(a, 1, 8) && within(b, 20, 200)), x -> x.growth(a, b));
                check("back" + row, argument(within(a, 0, 2) && within(b, 0, 8)), x -> x.back(a, b));
                check("turn" + row, index(within(a, 0, kept - 1), argument(b >= 0)), x -> x.turn(a, b));
                check("next" + row, argument(isModel(a) && within(b, 0, signs)), x -> x.next(a, b));
                check("turned" + row, argument(isModel(a) && b >= 0), x -> x.turned(a, b));
                check("allCosts" + row, argument(isModel(a) && areFewTexts(b)), x -> x.allCosts(a, b));
                check("extreme" + row, argument(isModel(a) && areFewTexts(b)), x -> x.extreme(a, b, true));
                check("extreme, cheapest" + row, argument(isModel(a) && areFewTexts(b)), x -> x.extreme(a, b, false));
            }
        }
    }

    private static void callsWithThree() {
        for (int a : FEW) {
            for (int b : FEW) {
                for (int c : FEW) {
                    String row = "(" + a + ", " + b + ", " + c + ")";
                    Class<?> read = index(within(a, 0, kept - 1), argument(isModel(b) && within(c, 0, 16)));
                    check("take" + row, read, x -> x.take(a, b, c));
                    check("read" + row, read, x -> x.read(a, b, c));
                    check("ofStep" + row, argument(isModel(a) && b >= 0 && within(c, 0, 7)), x -> x.ofStep(a, b, c));
                }
            }
        }
    }

    /** Two signs go through all places, the others are nothing; then six at once. */
    private static void says() {
        for (int one = 0; one < 6; one++) {
            for (int a : EDGES) {
                sayTwo(one, a, one, a);
            }
            for (int other = one + 1; other < 6; other++) {
                for (int a : SIGNS) {
                    for (int b : SIGNS) {
                        sayTwo(one, a, other, b);
                    }
                }
            }
        }
        check("say of six", typed + 6 > 16 ? STATE : null, x -> x.say(0, 1, 0, 1, 0, 1));
        check("say of five", typed + 5 > 16 ? STATE : null, x -> x.say(0, 1, 0, 1, 0, -1));
        check("say of none", null, x -> x.say(-1, -1, -1, -1, -1, -1));
    }

    private static void sayTwo(int one, int a, int other, int b) {
        int[] s = {-1, -1, -1, -1, -1, -1};
        s[one] = a;
        s[other] = b;
        int more = 0;
        boolean areSigns = true;
        for (int sign : s) {
            more += sign == -1 ? 0 : 1;
            areSigns &= within(sign, -1, signs - 1);
        }
        check("say with " + a + " at " + one + ", " + b + " at " + other, index(areSigns, typed + more > 16 ? STATE : null),
            x -> x.say(s[0], s[1], s[2], s[3], s[4], s[5]));
    }
}
