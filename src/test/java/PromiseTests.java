import java.util.Objects;

/** For each promise of the document: ordinary inputs, the edges that it names, and wrong inputs. */
public final class PromiseTests {
    private static final int MIN = Integer.MIN_VALUE;
    private static final int MAX = Integer.MAX_VALUE;
    private static final Class<?> INDEX = IndexOutOfBoundsException.class;
    private static final Class<?> ARGUMENT = IllegalArgumentException.class;
    private static final Class<?> STATE = IllegalStateException.class;
    private static int wrong = 0;
    private static int checked = 0;

    public static void main(String[] args) {
        aNewObject();
        signs();
        weight();
        growth();
        back();
        say();
        rub();
        take();
        learn();
        keep();
        turn();
        burn();
        blankAndKnock();
        typedHouseAndWeightOf();
        steps();
        ofStep();
        ofStepWithCarries();
        next();
        nextInContext();
        bits();
        cost();
        bound();
        least();
        bitsOf();
        read();
        readFarBeyond();
        turned();
        extreme();
        allCosts();
        blocks();
        blockCost();
        saving();
        isSound();
        digest();
        System.out.println(checked + " checks, " + wrong + " wrong");
        if (wrong != 0) {
            System.exit(1);
        }
    }

    private static void same(String what, Object got, Object due) {
        checked++;
        if (!Objects.equals(got, due)) {
            wrong++;
            System.out.println(what + " answered " + got + ", due is " + due);
        }
    }

    /** The call throws just that, and changes nothing. */
    private static void refused(String what, Rangecodermill x, Class<?> due, Runnable call) {
        long before = x.digest();
        Class<?> thrown = null;
        try {
            call.run();
        } catch (RuntimeException e) {
            thrown = e.getClass();
        }
        same(what + " throws", thrown, due);
        same(what + " and digest()", x.digest(), before);
    }

    private static void refusedForModels(String what, Rangecodermill x, java.util.function.IntConsumer call) {
        for (int model : new int[] {MIN, -1, 4, MAX}) {
            refused(what + " by model " + model, x, ARGUMENT, () -> call.accept(model));
        }
    }

    /** A mill with that many signs, all typed that the text tells. */
    private static Rangecodermill mill(int signs, String text) {
        Rangecodermill x = new Rangecodermill();
        x.signs(signs);
        type(x, text);
        return x;
    }

    private static void type(Rangecodermill x, String text) {
        for (char c : text.toCharArray()) {
            x.say(c - 'a', -1, -1, -1, -1, -1);
        }
    }

    private static void weights(Rangecodermill x, int... weights) {
        for (int s = 0; s < weights.length; s++) {
            x.weight(s, weights[s]);
        }
    }

    private static String facts(Rangecodermill x, int model, int nth) {
        StringBuilder facts = new StringBuilder();
        for (int what = 0; what < 8; what++) {
            facts.append(what == 0 ? "" : " ").append(x.ofStep(model, nth, what));
        }
        return facts.toString();
    }

    private static String menu(Rangecodermill x, int model) {
        StringBuilder menu = new StringBuilder();
        for (int choice = 0; choice <= x.house(0); choice++) {
            menu.append(choice == 0 ? "" : " ").append(x.next(model, choice));
        }
        return menu.toString();
    }

    // ---- promise 1

    private static void aNewObject() {
        Rangecodermill x = new Rangecodermill();
        int[] due = {3, 0, 1, 100, 1, 4, 3, 0, 0, 0};
        for (int what = 0; what < due.length; what++) {
            same("new: house(" + what + ")", x.house(what), due[what]);
        }
        same("new: typed()", x.typed(), "");
        for (int s = 0; s < 3; s++) {
            same("new: weightOf(" + s + ")", x.weightOf(s), 1);
        }
        x.say(0, 1, 2, 0, 1, 2);
        x.knock();
        same("another one", new Rangecodermill().house(1), 0);
    }

    // ---- promise 2

    private static void signs() {
        Rangecodermill x = new Rangecodermill();
        x.weight(0, 7);
        x.growth(3, 30);
        x.back(2, 8);
        x.say(0, 1, 2, -1, -1, -1);
        x.keep(0);
        String kept = x.bitsOf(0);
        same("signs(6)", x.signs(6), 3);
        same("typed() behind signs(6)", x.typed(), "");
        same("sum of weights behind signs(6)", x.house(6), 6);
        same("weightOf(0) behind signs(6)", x.weightOf(0), 1);
        same("kept behind signs(6)", x.bitsOf(0), kept);
        same("growth behind signs(6)", x.house(2) + " " + x.house(3) + " " + x.house(4) + " " + x.house(5), "3 30 2 8");
        x.weight(5, 9);
        x.say(5, -1, -1, -1, -1, -1);
        same("signs(6) again", x.signs(6), 6);
        same("typed() behind signs(6) again", x.typed(), "");
        same("weightOf(5) behind signs(6) again", x.weightOf(5), 1);
        same("signs(2)", x.signs(2), 6);
        same("signs(3)", x.signs(3), 2);
        for (int many : new int[] {MIN, -1, 0, 1, 7, MAX}) {
            refused("signs(" + many + ")", x, ARGUMENT, () -> x.signs(many));
        }
    }

    // ---- promise 3

    private static void weight() {
        Rangecodermill x = mill(2, "ab");
        same("weight(1, 30)", x.weight(1, 30), 1);
        same("weight(1, 2)", x.weight(1, 2), 30);
        same("weightOf(1)", x.weightOf(1), 2);
        same("weightOf(0)", x.weightOf(0), 1);
        same("typed() behind weight()", x.typed(), "ab");
        refused("weight(2, 1)", x, INDEX, () -> x.weight(2, 1));
        refused("weight(-1, 1)", x, INDEX, () -> x.weight(-1, 1));
        refused("weight(2, 31)", x, INDEX, () -> x.weight(2, 31));
        refused("weight(MIN, 0)", x, INDEX, () -> x.weight(MIN, 0));
        for (int weight : new int[] {MIN, 0, 31, MAX}) {
            refused("weight(0, " + weight + ")", x, ARGUMENT, () -> x.weight(0, weight));
        }
    }

    // ---- promise 4

    private static void growth() {
        Rangecodermill x = new Rangecodermill();
        same("growth(8, 20)", x.growth(8, 20), 1100);
        same("growth(1, 200)", x.growth(1, 200), 8020);
        same("growth(2, 50)", x.growth(2, 50), 1200);
        same("house(2), house(3)", x.house(2) + " " + x.house(3), "2 50");
        refused("growth(0, 100)", x, ARGUMENT, () -> x.growth(0, 100));
        refused("growth(9, 100)", x, ARGUMENT, () -> x.growth(9, 100));
        refused("growth(1, 19)", x, ARGUMENT, () -> x.growth(1, 19));
        refused("growth(1, 201)", x, ARGUMENT, () -> x.growth(1, 201));
        refused("growth(MAX, MIN)", x, ARGUMENT, () -> x.growth(MAX, MIN));
    }

    // ---- promise 5

    private static void back() {
        Rangecodermill x = new Rangecodermill();
        same("back(0, 0)", x.back(0, 0), 14);
        same("back(2, 8)", x.back(2, 8), 0);
        same("back(1, 3)", x.back(1, 3), 28);
        same("house(4), house(5)", x.house(4) + " " + x.house(5), "1 3");
        refused("back(-1, 0)", x, ARGUMENT, () -> x.back(-1, 0));
        refused("back(3, 0)", x, ARGUMENT, () -> x.back(3, 0));
        refused("back(0, -1)", x, ARGUMENT, () -> x.back(0, -1));
        refused("back(0, 9)", x, ARGUMENT, () -> x.back(0, 9));
    }

    // ---- promise 6

    private static void say() {
        Rangecodermill x = new Rangecodermill();
        same("say of nothing", x.say(-1, -1, -1, -1, -1, -1), 0);
        same("say with gaps", x.say(-1, 2, -1, 0, 1, -1), 3);
        same("typed() behind it", x.typed(), "cab");
        same("say of six", x.say(0, 1, 2, 0, 1, 2), 9);
        same("say of six more", x.say(2, 1, 0, 2, 1, 0), 15);
        refused("say of two too many", x, STATE, () -> x.say(0, -1, -1, -1, -1, 1));
        for (int place = 0; place < 5; place++) {
            int at = place;
            refused("say of two too many in places " + at + " and behind", x, STATE,
                () -> x.say(at == 0 ? 0 : -1, at <= 1 ? 0 : -1, at == 1 || at == 2 ? 0 : -1, at == 2 || at == 3 ? 0 : -1,
                    at == 3 || at == 4 ? 0 : -1, at == 4 ? 0 : -1));
        }
        refused("say of a bad sign and too many", x, INDEX, () -> x.say(0, 0, 0, 0, 0, 3));
        refused("say(-2, ..)", x, INDEX, () -> x.say(-2, -1, -1, -1, -1, -1));
        refused("say(MAX, ..)", x, INDEX, () -> x.say(-1, MAX, -1, -1, -1, -1));
        refused("say(MIN, ..)", x, INDEX, () -> x.say(-1, -1, MIN, -1, -1, -1));
        for (int place = 3; place < 6; place++) {
            int at = place;
            refused("say with a bad sign in place " + at, x, INDEX,
                () -> x.say(-1, -1, -1, at == 3 ? 3 : -1, at == 4 ? 3 : -1, at == 5 ? 3 : -1));
        }
        same("say of the sixteenth", x.say(-1, -1, -1, -1, -1, 1), 16);
        same("typed() of sixteen", x.typed(), "cababcabccbacbab");
        same("say of nothing, full", x.say(-1, -1, -1, -1, -1, -1), 16);
        refused("say of the seventeenth", x, STATE, () -> x.say(0, -1, -1, -1, -1, -1));
    }

    // ---- promise 7

    private static void rub() {
        Rangecodermill x = mill(3, "abcabc");
        same("rub(0)", x.rub(0), 6);
        same("rub(2)", x.rub(2), 4);
        same("typed() behind rub(2)", x.typed(), "abca");
        refused("rub(-1)", x, ARGUMENT, () -> x.rub(-1));
        refused("rub(MIN)", x, ARGUMENT, () -> x.rub(MIN));
        same("rub(4)", x.rub(4), 0);
        same("rub(1) of nothing", x.rub(1), 0);
        x.say(0, 1, 2, -1, -1, -1);
        same("rub(MAX)", x.rub(MAX), 0);
        same("typed() behind rub(MAX)", x.typed(), "");
    }

    // ---- promise 8

    private static void take() {
        Rangecodermill x = mill(3, "abcabc");
        x.keep(1);
        x.rub(6);
        type(x, "abbabcab");
        same("take of six for eight", x.take(0, 1, 6), 1 + 2);
        same("typed() behind take", x.typed(), "abcabc");
        same("take of as many", x.take(0, 1, 6), 0);
        same("take of none", x.take(0, 1, 0), 6);
        same("typed() behind take of none", x.typed(), "");
        same("take of two for none", x.take(0, 1, 2), 2);
        same("typed() behind take of two", x.typed(), "ab");
        x.rub(2);
        type(x, "bb");
        same("take of two, the first unlike", x.take(0, 1, 2), 1);
        same("take of sixteen", x.take(0, 1, 16), 14);
        same("typed() behind take of sixteen", x.typed().substring(0, 6), "abcabc");
        refused("take(1, 0, 0)", x, INDEX, () -> x.take(1, 0, 0));
        refused("take(-1, 4, 0)", x, INDEX, () -> x.take(-1, 4, 0));
        refused("take(MAX, 0, 17)", x, INDEX, () -> x.take(MAX, 0, 17));
        refused("take(0, 0, 17)", x, ARGUMENT, () -> x.take(0, 0, 17));
        refused("take(0, 0, -1)", x, ARGUMENT, () -> x.take(0, 0, -1));
        refusedForModels("take", x, model -> x.take(0, model, 0));
    }

    // ---- promise 9

    private static void learn() {
        Rangecodermill x = mill(3, "aab");
        same("learn()", x.learn(), 2);
        same("weights learned", x.weightOf(0) + " " + x.weightOf(1) + " " + x.weightOf(2), "3 2 1");
        same("learn() again", x.learn(), 0);
        same("typed() behind learn()", x.typed(), "aab");
        x.rub(3);
        x.weight(2, 30);
        same("learn() of nothing", x.learn(), 3);
        same("sum of weights behind it", x.house(6), 3);
        type(x, "cccccccccccccccc");
        same("learn() of sixteen", x.learn(), 1);
        same("weightOf(2) behind it", x.weightOf(2), 17);
    }

    // ---- promise 10

    private static void keep() {
        Rangecodermill x = mill(3, "b");
        refusedForModels("keep", x, x::keep);
        for (int n = 0; n < 8; n++) {
            same("keep number " + n, x.keep(n % 4), n);
        }
        same("bits kept", x.bitsOf(0) + " " + x.bitsOf(3), "011 011");
        refused("keep(0), full", x, STATE, () -> x.keep(0));
        refused("keep(4), full", x, ARGUMENT, () -> x.keep(4));
        x.weight(0, 30);
        x.say(0, 0, 0, 0, 0, 0);
        same("what is kept stays", x.bitsOf(7), "011");
        same("house(7)", x.house(7), 8);
    }

    // ---- promise 11

    private static void turn() {
        Rangecodermill x = mill(3, "b");
        x.keep(0);
        x.keep(0);
        same("turn(1, 0)", x.turn(1, 0), 1);
        same("turn(1, 2)", x.turn(1, 2), 0);
        same("bitsOf(1) turned", x.bitsOf(1), "110");
        same("bitsOf(0) not turned", x.bitsOf(0), "011");
        same("turn(1, 0) again", x.turn(1, 0), 0);
        same("house(8) before", x.house(8), 0);
        same("turn(0, 3)", x.turn(0, 3), -9);
        same("turn(0, MAX)", x.turn(0, MAX), -9);
        same("house(8) behind two", x.house(8), 2);
        same("bitsOf(0) behind two", x.bitsOf(0), "011");
        refused("turn(2, 0)", x, INDEX, () -> x.turn(2, 0));
        refused("turn(-1, -1)", x, INDEX, () -> x.turn(-1, -1));
        refused("turn(0, -1)", x, ARGUMENT, () -> x.turn(0, -1));
        refused("turn(0, MIN)", x, ARGUMENT, () -> x.turn(0, MIN));
    }

    // ---- promise 12

    private static void burn() {
        Rangecodermill x = mill(3, "b");
        same("burn() of nothing", x.burn(), 0);
        x.keep(0);
        x.keep(1);
        same("burn()", x.burn(), 2);
        same("house(7) behind burn()", x.house(7), 0);
        refused("bitsOf(0) behind burn()", x, INDEX, () -> x.bitsOf(0));
        x.say(2, -1, -1, -1, -1, -1);
        same("keep behind burn()", x.keep(0), 0);
        same("bitsOf(0)", x.bitsOf(0), x.bits(0));
    }

    // ---- promises 13, 14

    private static void blankAndKnock() {
        Rangecodermill x = new Rangecodermill();
        same("blank()", x.blank(), -9);
        same("blank() again", x.blank(), -9);
        same("house(8)", x.house(8), 2);
        same("knock()", x.knock(), 1);
        same("knock() again", x.knock(), 2);
        same("house(9)", x.house(9), 2);
        same("house(8) behind knock()", x.house(8), 2);
    }

    // ---- promises 15, 16, 17

    private static void typedHouseAndWeightOf() {
        Rangecodermill x = mill(6, "fedcba");
        same("typed()", x.typed(), "fedcba");
        weights(x, 2, 3, 4, 5, 6, 30);
        x.growth(7, 123);
        x.back(2, 6);
        x.keep(0);
        x.keep(2);
        x.keep(3);
        x.blank();
        x.knock();
        x.knock();
        int[] due = {6, 6, 7, 123, 2, 6, 50, 3, 1, 2};
        for (int what = 0; what < due.length; what++) {
            same("house(" + what + ")", x.house(what), due[what]);
        }
        for (int what : new int[] {MIN, -1, 10, MAX}) {
            refused("house(" + what + ")", x, ARGUMENT, () -> x.house(what));
        }
        same("weightOf(5)", x.weightOf(5), 30);
        for (int sign : new int[] {MIN, -1, 6, MAX}) {
            refused("weightOf(" + sign + ")", x, INDEX, () -> x.weightOf(sign));
        }
    }

    // ---- promise 18

    private static void steps() {
        Rangecodermill x = mill(3, "");
        for (int model = 0; model < 4; model++) {
            same("steps(" + model + ") of nothing", x.steps(model), 0);
        }
        type(x, "ab");
        same("steps(0)", x.steps(0), 2);
        same("steps(1)", x.steps(1), 2);
        same("steps(2), one escape", x.steps(2), 3);
        same("steps(3)", x.steps(3), 2);
        // a; escape b; escape (behind a there was b alone), and then c is left alone with nothing ahead but a and b
        type(x, "ac");
        same("steps(2) of abac", x.steps(2), 1 + 2 + 1 + 3);
        refusedForModels("steps", x, x::steps);
    }

    // ---- promise 19

    private static void ofStep() {
        Rangecodermill x = mill(3, "b");
        same("FIXED b", facts(x, 0, 0), "1 1 1 3 21845 21845 0 0");
        same("FIXED without such a step", facts(x, 0, 1), "-1 -1 -1 -1 -1 -1 -1 -1");
        same("FIXED far behind", x.ofStep(0, MAX, 0), -1);
        same("of nothing", mill(3, "").ofStep(2, 0, 4), -1);
        // RANGE is 21845, 7281, 2427, 809, 269, and then 89, below 256; LOW was 32720 = 127 * 256 + 208
        type(x, "bbbbb");
        same("FIXED, a byte comes", facts(x, 0, 5), "1 1 1 3 53248 22784 1 0");
        same("FIXED, before it", facts(x, 0, 4), "1 1 1 3 32631 269 0 0");
        Rangecodermill y = mill(3, "ab");
        same("CONTEXT a", facts(y, 2, 0), "0 0 1 3 0 21845 0 0");
        same("CONTEXT escape", facts(y, 2, 1), "3 1 1 2 10922 10922 0 0");
        same("CONTEXT b", facts(y, 2, 2), "1 0 1 2 10922 5461 0 0");
        refused("ofStep(0, -1, 0)", y, ARGUMENT, () -> y.ofStep(0, -1, 0));
        refused("ofStep(0, MIN, 0)", y, ARGUMENT, () -> y.ofStep(0, MIN, 0));
        refused("ofStep(0, 0, -1)", y, ARGUMENT, () -> y.ofStep(0, 0, -1));
        refused("ofStep(0, 0, 8)", y, ARGUMENT, () -> y.ofStep(0, 0, 8));
        refused("ofStep(0, 99, 8)", y, ARGUMENT, () -> y.ofStep(0, 99, 8));
        refusedForModels("ofStep", y, model -> y.ofStep(model, 0, 0));
    }

    private static void ofStepWithCarries() {
        Rangecodermill x = mill(4, "abcdabcdabcdabcd");
        weights(x, 15, 15, 7, 6);
        same("one byte by the carry", x.ofStep(0, 13, 7), 1);
        same("none behind it", x.ofStep(0, 14, 7), 0);
        Rangecodermill y = mill(4, "adcbdbaadbcadcdc");
        weights(y, 8, 30, 10, 22);
        y.growth(3, 118);
        same("three bytes by one carry", y.ofStep(1, 14, 7), 3);
        same("they are read", readBack(y, 1), "adcbdbaadbcadcdc");
        Rangecodermill z = mill(3, "cbaababcbcccacbc");
        weights(z, 4, 16, 2);
        same("LOW before", z.ofStep(0, 13, 4) + " " + z.ofStep(0, 13, 5), "57344 45056");
        same("LOW grows by 4 * (45056 / 22) to 65536 itself", facts(z, 0, 14), "1 4 16 22 0 32768 4 1");
    }

    private static String readBack(Rangecodermill x, int model) {
        return x.read(x.keep(model), model, x.house(1));
    }

    // ---- promise 20

    private static void next() {
        Rangecodermill x = mill(3, "ab");
        weights(x, 5, 30, 1);
        same("FIXED", menu(x, 0), "5 30 1 0");
        Rangecodermill y = mill(2, "");
        y.weight(0, 30);
        y.growth(8, 20);
        same("COUNTED, halved at first", menu(y, 1), "15 1 0");
        type(y, "a");
        same("COUNTED, halved behind a", menu(y, 1), "12 1 0");
        Rangecodermill z = mill(6, "");
        weights(z, 30, 30, 30, 30, 30, 30);
        z.growth(1, 20);
        same("COUNTED, halved again and again", menu(z, 1), "2 2 2 2 2 2 0");
        Rangecodermill u = mill(3, "");
        same("MIXED at first", menu(u, 3), "43 43 43 0");
        type(u, "a");
        same("MIXED behind a", menu(u, 3), "54 38 38 0");
        u.back(1, 8);
        same("MIXED by weights alone", menu(u, 3), "43 43 43 0");
        u.back(1, 0);
        same("MIXED by counts alone", menu(u, 3), "65 33 33 0");
        refused("next(0, -1)", u, ARGUMENT, () -> u.next(0, -1));
        refused("next(0, 4)", u, ARGUMENT, () -> u.next(0, 4));
        refused("next(2, MAX)", u, ARGUMENT, () -> u.next(2, MAX));
        refusedForModels("next", u, model -> u.next(model, 0));
    }

    private static void nextInContext() {
        Rangecodermill x = mill(3, "");
        same("of nothing: all signs", menu(x, 2), "1 1 1 0");
        type(x, "aab");
        same("none behind b: by order 0", menu(x, 2), "2 1 0 2");
        type(x, "a");
        same("behind a", menu(x, 2), "1 1 0 2");
        x.back(0, 4);
        same("by order 0", menu(x, 2), "3 1 0 2");
        type(x, "a");
        x.back(2, 4);
        same("behind aa", menu(x, 2), "0 1 0 1");
        x.back(1, 4);
        type(x, "ca");
        same("all signs came: no escape", menu(x, 2), "2 1 1 0");
        Rangecodermill y = mill(2, "aaa");
        y.back(2, 4);
        same("overlapping", menu(y, 2), "1 0 1");
    }

    // ---- promise 21

    private static void bits() {
        same("bits of nothing", mill(3, "").bits(2), "");
        same("bits of a", mill(3, "a").bits(0), "00");
        same("bits of b", mill(3, "b").bits(0), "011");
        same("bits of c", mill(3, "c").bits(0), "110");
        Rangecodermill x = mill(2, "ababaaabbbbbbbba");
        weights(x, 14, 10);
        x.growth(4, 93);
        same("low of 58880 and range of 26112", x.ofStep(1, 15, 4) + " " + x.ofStep(1, 15, 5), "58880 26112");
        same("a carry for bits alone", x.bits(1), "011101001000001000");
        same("low stays", x.ofStep(1, 15, 4), 58880);
        Rangecodermill y = mill(2, "abbbbababbaaaabb");
        weights(y, 3, 6);
        same("a carry for bits over 255", y.bits(0), "01000111000000000");
        same("and it is read", readBack(y, 0), "abbbbababbaaaabb");
        same("four signs by two bits each", mill(4, "abcdabcdabcdabcd").bits(0), "00011011000110110001101100011011");
        refusedForModels("bits", x, x::bits);
    }

    // ---- promise 22

    private static void cost() {
        Rangecodermill x = mill(4, "");
        same("cost of nothing", x.cost(0), 0);
        type(x, "abcdabcd");
        same("cost(0)", x.cost(0), 16);
        for (int model = 0; model < 4; model++) {
            same("cost(" + model + ")", x.cost(model), x.bits(model).length());
        }
        refusedForModels("cost", x, x::cost);
    }

    // ---- promise 23

    private static void bound() {
        Rangecodermill x = mill(3, "");
        same("lower of nothing", x.bound(0, false), "0");
        same("upper of nothing", x.bound(0, true), "1");
        type(x, "c");
        same("lower of c", x.bound(0, false), "2/3");
        same("upper of c", x.bound(0, true), "1");
        weights(x, 2, 2, 2);
        same("lower in lowest terms", x.bound(0, false), "2/3");
        type(x, "a");
        same("lower of ca", x.bound(0, false), "2/3");
        same("upper of ca", x.bound(0, true), "7/9");
        Rangecodermill y = mill(6, "");
        weights(y, 29, 30, 30, 30, 30, 30);
        type(y, "aaaaaaaaaaaaaaaa");
        same("a top and a bottom of many digits", y.bound(0, true),
            "250246473680347348787521/" + new java.math.BigInteger("179").pow(16));
        same("lower of many a", y.bound(0, false), "0");
        refusedForModels("bound", x, model -> x.bound(model, true));
    }

    // ---- promise 24

    private static void least() {
        same("of nothing", mill(3, "").least(0, false) + " " + mill(3, "").least(0, true), "0 0");
        same("of a", mill(3, "a").least(0, false) + " " + mill(3, "a").least(0, true), "2 2");
        same("of b", mill(3, "b").least(0, false) + " " + mill(3, "b").least(0, true), "2 3");
        same("of c", mill(3, "c").least(0, false) + " " + mill(3, "c").least(0, true), "2 2");
        same("of d of four", mill(4, "d").least(0, false) + " " + mill(4, "d").least(0, true), "2 2");
        Rangecodermill x = mill(2, "aaaa");
        x.weight(0, 3);
        same("81/256 of the whole", x.least(0, false) + " " + x.least(0, true), "2 2");
        refusedForModels("least", x, model -> x.least(model, false));
    }

    // ---- promise 25

    private static void bitsOf() {
        Rangecodermill x = mill(3, "");
        x.keep(0);
        type(x, "b");
        x.keep(0);
        same("bitsOf(0)", x.bitsOf(0), "");
        same("bitsOf(1)", x.bitsOf(1), "011");
        for (int kept : new int[] {MIN, -1, 2, MAX}) {
            refused("bitsOf(" + kept + ")", x, INDEX, () -> x.bitsOf(kept));
        }
    }

    // ---- promise 26

    private static void read() {
        Rangecodermill x = mill(3, "");
        x.keep(0);
        same("zeros without end", x.read(0, 0, 16), "aaaaaaaaaaaaaaaa");
        same("of no length", x.read(0, 0, 0), "");
        type(x, "bca");
        for (int model = 0; model < 4; model++) {
            same("read back by " + model, x.read(x.keep(model), model, 3), "bca");
        }
        same("fewer", x.read(1, 0, 2), "bc");
        same("typed() behind read", x.typed(), "bca");
        x.signs(4);
        type(x, "abcd");
        x.keep(0);
        x.signs(2);
        same("00011011 by two signs", x.read(5, 0, 8), "aaabbabb");
        refused("read(6, 0, 0)", x, INDEX, () -> x.read(6, 0, 0));
        refused("read(-1, 4, 0)", x, INDEX, () -> x.read(-1, 4, 0));
        refused("read(0, 0, -1)", x, ARGUMENT, () -> x.read(0, 0, -1));
        refused("read(0, 0, 17)", x, ARGUMENT, () -> x.read(0, 0, 17));
        refusedForModels("read", x, model -> x.read(0, model, 0));
    }

    /** Behind all of the RANGE the last CHOICE is taken, however far CODE is beyond it. */
    private static void readFarBeyond() {
        Rangecodermill x = mill(6, "ffffffffffffffff");
        weights(x, 30, 30, 30, 30, 30, 1);
        int kept = x.keep(0);
        for (int bit = 0; bit < x.bitsOf(kept).length(); bit++) {
            if (x.bitsOf(kept).charAt(bit) == '0') {
                x.turn(kept, bit);
            }
        }
        same("all ones by FIXED", x.read(kept, 0, 16), "ffffffffffffffff");
        same("all ones by MIXED", x.read(kept, 3, 16).charAt(0), 'f');
        Rangecodermill y = mill(3, "ccccc");
        same("c by CONTEXT", readBack(y, 2), "ccccc");
    }

    // ---- promise 27

    private static void turned() {
        Rangecodermill x = mill(2, "abab");
        same("turned(0, 0)", x.turned(0, 0), "bbab");
        same("turned(0, 3)", x.turned(0, 3), "abaa");
        same("turned(0, 4)", x.turned(0, 4), "!");
        same("turned(0, MAX)", x.turned(0, MAX), "!");
        same("typed() behind turned", x.typed(), "abab");
        same("bits behind turned", x.bits(0), "0101");
        same("of nothing", mill(2, "").turned(3, 0), "!");
        refused("turned(0, -1)", x, ARGUMENT, () -> x.turned(0, -1));
        refused("turned(0, MIN)", x, ARGUMENT, () -> x.turned(0, MIN));
        refusedForModels("turned", x, model -> x.turned(model, 0));
    }

    // ---- promise 28

    private static void extreme() {
        Rangecodermill x = mill(3, "ca");
        same("dearest of one sign, the first of two", x.extreme(0, 1, true), "b");
        same("cheapest of one sign", x.extreme(0, 1, false), "a");
        same("of no length", x.extreme(0, 0, true) + x.extreme(2, 0, false), "");
        weights(x, 1, 29, 30);
        same("dearest by weights", x.extreme(0, 3, true), "aaa");
        same("cheapest by weights", x.extreme(0, 3, false), "bbb");
        same("typed() behind extreme", x.typed(), "ca");
        same("81 texts", x.extreme(0, 4, true).length(), 4);
        same("64 texts, all the same", mill(4, "").extreme(0, 3, true), "aaa");
        refused("extreme(0, 5, true)", x, ARGUMENT, () -> x.extreme(0, 5, true));
        refused("extreme(0, -1, true)", x, ARGUMENT, () -> x.extreme(0, -1, true));
        refused("extreme(0, MAX, true)", x, ARGUMENT, () -> x.extreme(0, MAX, true));
        refusedForModels("extreme", x, model -> x.extreme(model, 1, false));
        Rangecodermill four = mill(4, "");
        refused("256 texts", four, ARGUMENT, () -> four.extreme(0, 4, false));
        Rangecodermill five = mill(5, "");
        refused("125 texts", five, ARGUMENT, () -> five.extreme(0, 3, false));
        Rangecodermill two = mill(2, "");
        refused("16 texts of 4, but 5", two, ARGUMENT, () -> two.extreme(0, 5, false));
        same("36 texts", mill(6, "").extreme(0, 2, false).length(), 2);
    }

    // ---- promise 29

    private static void allCosts() {
        Rangecodermill x = mill(3, "ab");
        same("allCosts(0, 0)", x.allCosts(0, 0), 0);
        same("allCosts(0, 1)", x.allCosts(0, 1), 2 + 3 + 3);
        same("allCosts(2, 1)", x.allCosts(2, 1), 2 + 3 + 3);
        same("typed() behind allCosts", x.typed(), "ab");
        same("64 texts of six bits", mill(4, "").allCosts(0, 3), 64 * 6);
        refused("allCosts(0, 5)", x, ARGUMENT, () -> x.allCosts(0, 5));
        refused("allCosts(0, -1)", x, ARGUMENT, () -> x.allCosts(0, -1));
        refusedForModels("allCosts", x, model -> x.allCosts(model, 1));
        Rangecodermill six = mill(6, "");
        refused("216 texts", six, ARGUMENT, () -> six.allCosts(0, 3));
    }

    // ---- promises 30, 31

    private static void blocks() {
        Rangecodermill x = mill(3, "");
        same("blocks of nothing", x.blocks(), "");
        type(x, "a");
        same("blocks of one sign, the model with the smallest number", x.blocks(), "1:0");
        Rangecodermill u = mill(4, "abcdabcdabcdabcd");
        same("one block by what came last", u.blocks(), "16:2");
        u.back(0, 8);
        same("one block, the longest first and the smallest model", u.blocks(), "16:0");
        Rangecodermill y = mill(2, "aaaaaaaaaaaaabba");
        y.weight(0, 30);
        y.growth(8, 20);
        same("two blocks", y.blocks(), "13:0 3:2");
        same("what they cost", y.blockCost(), 8);
        Rangecodermill z = mill(6, "fedcbaaaffff");
        z.back(1, 7);
        z.growth(5, 20);
        same("two blocks of others", z.blocks(), "8:2 4:1");
        same("what they cost", z.blockCost(), 29);
    }

    private static void blockCost() {
        Rangecodermill x = mill(3, "");
        same("blockCost of nothing", x.blockCost(), 0);
        type(x, "b");
        same("blockCost of one sign", x.blockCost(), 3 + 2);
        Rangecodermill y = mill(4, "abcdabcdabcdabcd");
        same("blockCost by what came last", y.blockCost(), 18 + 2);
        y.back(0, 8);
        same("blockCost of sixteen", y.blockCost(), 32 + 2);
    }

    // ---- promise 32

    private static void saving() {
        same("saving of nothing by two signs", mill(2, "").saving(), -10);
        same("saving of nothing by six signs", mill(6, "").saving(), -30);
        Rangecodermill x = mill(2, "aaaaaaaaaaaaaaab");
        int plain = x.cost(0);
        x.weight(0, 7);
        x.weight(1, 29);
        int saving = x.saving();
        same("weights behind saving()", x.weightOf(0) + " " + x.weightOf(1), "7 29");
        x.learn();
        same("saving()", saving, plain - x.cost(0) - 10);
        same("saving() with others told", x.saving(), saving);
        same("plain", plain, 16);
    }

    // ---- promise 33

    private static void isSound() {
        same("nothing is sound", mill(2, "").isSound(), true);
        same("what stays in one model is sound", mill(6, "abcdefabcdefabcd").isSound(), true);
        Rangecodermill x = mill(4, "adcbdbaadbcadcdc");
        weights(x, 8, 30, 10, 22);
        x.growth(3, 118);
        same("what carries is sound", x.isSound(), true);
        x.keep(0);
        x.turn(0, 0);
        same("what is kept does not matter", x.isSound(), true);
        Rangecodermill y = mill(6, "ffffffffffffffff");
        weights(y, 30, 30, 30, 30, 30, 1);
        same("what is dear is sound", y.isSound(), true);
    }

    // ---- promise 34

    private static void digest() {
        Rangecodermill x = new Rangecodermill();
        same("digest of nothing", x.digest(), digestOf(x));
        type(x, "abcabcaab");
        weights(x, 3, 9, 27);
        x.back(2, 3);
        x.keep(1);
        x.keep(2);
        x.turn(0, 3);
        x.turn(0, 99);
        x.knock();
        same("digest", x.digest(), digestOf(x));
        same("digest again", x.digest(), digestOf(x));
        x.growth(8, 20);
        same("digest of another growth", x.digest(), digestOf(x));
        x.signs(6);
        type(x, "fedcbaaabbccddee");
        same("digest of six signs", x.digest(), digestOf(x));
    }

    private static long d;

    private static void mix(long v) {
        d = d * 31 + v;
    }

    private static void mixBits(String bits) {
        for (char c : bits.toCharArray()) {
            mix(c - '0');
        }
    }

    /** The document's row of numbers, by calls alone. */
    private static long digestOf(Rangecodermill x) {
        d = 9161;
        for (int what = 0; what <= 9; what++) {
            mix(x.house(what));
        }
        for (int s = 0; s < x.house(0); s++) {
            mix(x.weightOf(s));
        }
        for (char c : x.typed().toCharArray()) {
            mix(c - 'a');
        }
        for (int model = 0; model < 4; model++) {
            mix(x.steps(model));
            mix(x.cost(model));
            mixBits(x.bits(model));
            mix(x.least(model, false));
            mix(x.least(model, true));
            mix(x.bound(model, false).length());
            mix(x.bound(model, true).length());
            for (int what = 0; what < 8; what++) {
                mix(x.steps(model) == 0 ? -1 : x.ofStep(model, x.steps(model) - 1, what));
            }
            for (int choice = 0; choice <= x.house(0); choice++) {
                mix(x.next(model, choice));
            }
        }
        for (int kept = 0; kept < x.house(7); kept++) {
            mix(x.bitsOf(kept).length());
            mixBits(x.bitsOf(kept));
        }
        mix(x.blockCost());
        mix(x.blocks().length());
        mix(x.saving());
        mix(x.isSound() ? 1 : 0);
        return d;
    }
}
