import java.io.IOException;
import java.math.BigInteger;
import java.nio.file.Files;
import java.nio.file.Path;
import java.util.Objects;

/**
 * For each sentence of the document that names a boundary case, a test of its own: it quotes the sentence, to the letter,
 * and stands on both sides of the boundary. The answers are worked out by hand; how stands beside them.
 */
public final class EdgeTests {
    private static final Path DOCUMENT = Path.of("../shared/DOC.md");
    private static final int MIN = Integer.MIN_VALUE;
    private static final int MAX = Integer.MAX_VALUE;
    private static final Class<?> INDEX = IndexOutOfBoundsException.class;
    private static final Class<?> ARGUMENT = IllegalArgumentException.class;
    private static final Class<?> STATE = IllegalStateException.class;
    private static String document = "";
    private static String sentence = "";
    private static int sentences = 0;
    private static int checked = 0;
    private static int wrong = 0;

    public static void main(String[] args) throws IOException {
        document = Files.exists(DOCUMENT) ? plain(Files.readString(DOCUMENT)) : "";
        usedFor512Calls();
        howManySigns();
        theFirstExceptionIsThrown();
        whatIsTold();
        typedText();
        counted();
        context();
        contextEscapes();
        mixed();
        steps();
        carries();
        bytes();
        bits();
        reading();
        readingOthers();
        exactBounds();
        exactBits();
        costs();
        textsOfALength();
        blocks();
        bestBlocks();
        learned();
        kept();
        turned();
        answersBeyond();
        sound();
        checksum();
        System.out.println(sentences + " sentences, " + checked + " checks, " + wrong + " wrong");
        if (wrong != 0) {
            System.exit(1);
        }
    }

    private static String plain(String text) {
        return text.replaceAll("\\s+", " ");
    }

    /** What follows tests these words of the document. */
    private static void sentence(String words) {
        sentence = words;
        sentences++;
        same("the document says it", document.isEmpty() || document.contains(plain(words)), true);
    }

    private static void same(String what, Object got, Object due) {
        checked++;
        if (!Objects.equals(got, due)) {
            wrong++;
            System.out.println("\"" + sentence + "\": " + what + " answered " + got + ", due is " + due);
        }
    }

    /** The call throws just that, and changes nothing. */
    private static void refused(String what, Rangecodermill x, Class<?> due, Runnable call) {
        long before = x.digest();
        Class<?> thrown = null;
        try {
            call.run();
        } catch (RuntimeException e) {
            thrown = e.getClass();
        }
        same(what + " throws", thrown, due);
        same(what + " and digest()", x.digest(), before);
    }

    private static Rangecodermill mill(int signs, String text, int... weights) {
        Rangecodermill x = new Rangecodermill();
        x.signs(signs);
        for (int s = 0; s < weights.length; s++) {
            x.weight(s, weights[s]);
        }
        type(x, text);
        return x;
    }

    private static void type(Rangecodermill x, String text) {
        for (char c : text.toCharArray()) {
            x.say(c - 'a', -1, -1, -1, -1, -1);
        }
    }

    private static String menu(Rangecodermill x, int model) {
        StringBuilder menu = new StringBuilder();
        for (int choice = 0; choice <= x.house(0); choice++) {
            menu.append(choice == 0 ? "" : " ").append(x.next(model, choice));
        }
        return menu.toString();
    }

    /** CHOICE, AHEAD, PART and WHOLE of each STEP. */
    private static String choices(Rangecodermill x, int model) {
        StringBuilder choices = new StringBuilder();
        for (int nth = 0; nth < x.steps(model); nth++) {
            choices.append(nth == 0 ? "" : ", ").append(facts(x, model, nth, 0, 3));
        }
        return choices.toString();
    }

    /** LOW, RANGE, BYTES and those by the CARRY behind a STEP. */
    private static String milled(Rangecodermill x, int model, int nth) {
        return facts(x, model, nth, 4, 7);
    }

    private static String facts(Rangecodermill x, int model, int nth, int from, int to) {
        StringBuilder facts = new StringBuilder();
        for (int what = from; what <= to; what++) {
            facts.append(what == from ? "" : " ").append(x.ofStep(model, nth, what));
        }
        return facts.toString();
    }

    /** Keeps those bits: what is typed by two equal signs has one bit for each sign. */
    private static Rangecodermill keeping(String bits) {
        Rangecodermill x = mill(2, bits.replace('0', 'a').replace('1', 'b'));
        same("bits made to be kept", x.bitsOf(x.keep(0)), bits);
        return x;
    }

    private static String everything(Rangecodermill x) {
        return x.digest() + " " + x.typed() + " " + x.blocks() + " " + x.extreme(2, 1, true);
    }

    // ---- the document's description

    private static void usedFor512Calls() {
        sentence("An object is used for at most 512 calls after it has been made; what later calls answer is free.");
        Rangecodermill x = mill(6, "abcdefabcdefabcd", 30, 30, 30, 30, 30, 1);
        Rangecodermill y = mill(6, "abcdefabcdefabcd", 30, 30, 30, 30, 30, 1);
        for (int n = 1 + 6 + 16; n < 510; n++) {
            x.knock();
        }
        for (int n = 0; n < 510 - 23; n++) {
            y.knock();
        }
        same("the 511th call", x.house(9), 487);
        same("the 512th call", x.digest(), y.digest());
        Rangecodermill z = new Rangecodermill();
        for (int n = 0; n < 511; n++) {
            z.blank();
        }
        same("the 512th call behind 511 of blank()", z.house(8), 511);
    }

    private static void howManySigns() {
        sentence("There are 2 to 6 SIGNS (3 at first), numbered from 0, written \"a\" to \"f\".");
        same("at first", new Rangecodermill().house(0), 3);
        same("the first and the last", mill(6, "abcdef").typed(), "abcdef");
        sentence("Throws `IllegalArgumentException` if many is not 2 to 6");
        for (int many : new int[] {MIN, 0, 1, 7, MAX}) {
            Rangecodermill x = mill(3, "abc", 3, 4, 5);
            refused("signs(" + many + ")", x, ARGUMENT, () -> x.signs(many));
            same("typed()", x.typed(), "abc");
        }
        for (int many = 2; many <= 6; many++) {
            Rangecodermill x = mill(3, "abc", 3, 4, 5);
            same("signs(" + many + ")", x.signs(many), 3);
            same("house(0)", x.house(0), many);
        }
        sentence("Tells how many SIGNS there are. TYPED is empty then, all WEIGHTS are 1.");
        Rangecodermill x = mill(3, "abc", 3, 4, 5);
        same("as many as there were", x.signs(3), 3);
        same("typed and weights", x.typed() + x.weightOf(0) + x.weightOf(1) + x.weightOf(2), "111");
        x.weight(2, 9);
        x.signs(2);
        x.signs(3);
        same("a sign that was gone comes with 1", x.weightOf(2), 1);
        sentence("if there is no such SIGN");
        Rangecodermill y = mill(2, "ab");
        same("weightOf(1)", y.weightOf(1), 1);
        refused("weightOf(2)", y, INDEX, () -> y.weightOf(2));
        refused("weightOf(-1)", y, INDEX, () -> y.weightOf(-1));
        y.signs(6);
        same("weightOf(5)", y.weightOf(5), 1);
        refused("weightOf(6)", y, INDEX, () -> y.weightOf(6));
    }

    private static void theFirstExceptionIsThrown() {
        sentence("If several exceptions apply, the one that is named first is thrown.");
        Rangecodermill x = mill(3, "abcabcabcabcabca");
        for (int n = 0; n < 8; n++) {
            x.keep(n % 4);
        }
        refused("weight: no such sign, no such weight", x, INDEX, () -> x.weight(3, 31));
        refused("say: no such sign, too long", x, INDEX, () -> x.say(0, 0, 0, 0, 0, 3));
        refused("say: below -1, too long", x, INDEX, () -> x.say(0, -2, -1, -1, -1, -1));
        refused("take: not kept, no such model", x, INDEX, () -> x.take(8, 4, 0));
        refused("take: not kept, no such length", x, INDEX, () -> x.take(-1, 0, 17));
        refused("keep: no such model, 8 are kept", x, ARGUMENT, () -> x.keep(4));
        refused("turn: not kept, bit below 0", x, INDEX, () -> x.turn(8, -1));
        refused("read: not kept, no such model", x, INDEX, () -> x.read(8, -1, 0));
        refused("read: not kept, no such length", x, INDEX, () -> x.read(MIN, 0, -1));
    }

    // ---- what is told

    private static void whatIsTold() {
        sentence("Throws `IllegalArgumentException` if weight is not 1 to 30");
        Rangecodermill x = mill(3, "abc");
        same("weight(0, 30)", x.weight(0, 30), 1);
        same("weight(0, 1)", x.weight(0, 1), 30);
        for (int weight : new int[] {MIN, -1, 0, 31, MAX}) {
            refused("weight(0, " + weight + ")", x, ARGUMENT, () -> x.weight(0, weight));
        }
        sentence("Throws `IllegalArgumentException` if growth is not 1 to 8, or limit not 20 to 200");
        same("growth(1, 20)", x.growth(1, 20), 1100);
        same("growth(8, 200)", x.growth(8, 200), 1020);
        same("and back", x.growth(1, 100), 8200);
        for (int growth : new int[] {MIN, -1, 0, 9, MAX}) {
            refused("growth(" + growth + ", 20)", x, ARGUMENT, () -> x.growth(growth, 20));
        }
        for (int limit : new int[] {MIN, 0, 19, 201, MAX}) {
            refused("growth(8, " + limit + ")", x, ARGUMENT, () -> x.growth(8, limit));
        }
        sentence("Throws `IllegalArgumentException` if back is not 0 to 2, or share not 0 to 8");
        same("back(0, 0)", x.back(0, 0), 14);
        same("back(2, 8)", x.back(2, 8), 0);
        same("and back", x.back(1, 4), 28);
        for (int back : new int[] {MIN, -1, 3, MAX}) {
            refused("back(" + back + ", 0)", x, ARGUMENT, () -> x.back(back, 0));
        }
        for (int share : new int[] {MIN, -1, 9, MAX}) {
            refused("back(0, " + share + ")", x, ARGUMENT, () -> x.back(0, share));
        }
        sentence("Told are: a WEIGHT for each SIGN (1 to 30; 1 at first), GROWTH (1 to 8; 1 at first), "
            + "LIMIT (20 to 200; 100 at first), BACK (0 to 2; 1 at first) and SHARE (0 to 8; 4 at first).");
        Rangecodermill y = new Rangecodermill();
        same("at first", y.weightOf(0) + " " + y.weightOf(1) + " " + y.weightOf(2) + " " + y.house(2) + " " + y.house(3)
            + " " + y.house(4) + " " + y.house(5), "1 1 1 1 100 1 4");
    }

    private static void typedText() {
        sentence("TYPED is a TEXT of at most 16 (empty at first).");
        same("at first", new Rangecodermill().typed(), "");
        sentence("Throws `IllegalStateException` if TYPED would be longer than 16");
        Rangecodermill x = mill(2, "abababababababa");
        refused("15 and 2", x, STATE, () -> x.say(-1, 1, -1, -1, 1, -1));
        same("15 and 1", x.say(-1, -1, -1, -1, 1, -1), 16);
        refused("16 and 1", x, STATE, () -> x.say(-1, -1, -1, -1, -1, 0));
        Rangecodermill y = mill(2, "aaaaaaaaaa");
        same("10 and 6", y.say(1, 1, 1, 1, 1, 1), 16);
        Rangecodermill z = mill(2, "aaaaaaaaaaa");
        refused("11 and 6", z, STATE, () -> z.say(1, 1, 1, 1, 1, 1));
        sentence("a SIGN, or NONE for nothing");
        same("nothing for an empty one", new Rangecodermill().say(-1, -1, -1, -1, -1, -1), 0);
        same("nothing for a full one", x.say(-1, -1, -1, -1, -1, -1), 16);
        Rangecodermill u = new Rangecodermill();
        same("each place by itself", u.say(2, -1, 1, -1, 0, -1) + u.typed() + u.say(-1, 2, -1, 1, -1, 0) + u.typed(), "3cba6cbacba");
        sentence("Throws `IndexOutOfBoundsException` if one is below -1, or there is no such SIGN");
        for (int bad : new int[] {MIN, -2, 3, 6, MAX}) {
            refused("say(" + bad + ", ..)", u, INDEX, () -> u.say(bad, -1, -1, -1, -1, -1));
            refused("say(0, " + bad + ", ..)", u, INDEX, () -> u.say(0, bad, -1, -1, -1, -1));
            refused("say(0, 0, " + bad + ", ..)", u, INDEX, () -> u.say(0, 0, bad, -1, -1, -1));
            refused("say(0, 0, 0, " + bad + ", ..)", u, INDEX, () -> u.say(0, 0, 0, bad, -1, -1));
            refused("say(0, 0, 0, 0, " + bad + ", ..)", u, INDEX, () -> u.say(0, 0, 0, 0, bad, -1));
            refused("say(0, 0, 0, 0, 0, " + bad + ")", u, INDEX, () -> u.say(0, 0, 0, 0, 0, bad));
        }
        sentence("Takes the last SIGNS of TYPED off (all, if there are fewer).");
        same("rub(5) of six", u.rub(5) + u.typed(), "1c");
        same("rub(1) of one", u.rub(1), 0);
        same("rub(1) of none", u.rub(1), 0);
        type(u, "ab");
        same("rub(3) of two", u.rub(3) + u.typed(), "0");
        type(u, "ab");
        same("rub(MAX) of two", u.rub(MAX), 0);
        type(u, "ab");
        same("rub(0) of two", u.rub(0), 2);
        sentence("Throws `IllegalArgumentException` if many is below 0");
        refused("rub(-1)", u, ARGUMENT, () -> u.rub(-1));
        refused("rub(MIN)", u, ARGUMENT, () -> u.rub(MIN));
    }

    // ---- models

    private static void counted() {
        sentence("as soon as the sum of all COUNTS is more than LIMIT (at first, too), each COUNT c becomes (c + 1) / 2");
        Rangecodermill x = mill(2, "", 10, 10);
        x.growth(1, 20);
        same("20 at first", menu(x, 1), "10 10 0");
        x.weight(1, 11);
        same("21 at first", menu(x, 1), "5 6 0");
        Rangecodermill y = mill(2, "a", 10, 8);
        y.growth(2, 20);
        same("20 behind a sign", menu(y, 1), "12 8 0");
        y.weight(1, 9);
        same("21 behind a sign", menu(y, 1), "6 5 0");
        same("a step knows the signs ahead alone", choices(y, 1), "0 0 10 19");
        Rangecodermill z = mill(6, "aa", 30, 30, 30, 30, 30, 30);
        z.growth(8, 200);
        same("196", menu(z, 1), "46 30 30 30 30 30 0");
        type(z, "a");
        same("204", menu(z, 1), "27 15 15 15 15 15 0");
        sentence("again and again, till it is not");
        Rangecodermill u = mill(6, "", 30, 30, 30, 30, 30, 30);
        u.growth(1, 20);
        // the sums: 180, 90, 48, 24, 12
        same("four times", menu(u, 1), "2 2 2 2 2 2 0");
        u.growth(1, 24);
        same("three times, till it is the limit", menu(u, 1), "4 4 4 4 4 4 0");
        u.growth(1, 23);
        same("four times again", menu(u, 1), "2 2 2 2 2 2 0");
        sentence("All numbers are whole; what is divided is divided downwards");
        Rangecodermill v = mill(2, "", 1, 30);
        v.growth(1, 20);
        same("a count of 1 stays 1", menu(v, 1), "1 15 0");
        sentence("the COUNT of each SIGN that is taken grows by GROWTH");
        Rangecodermill w = mill(3, "cac", 1, 2, 3);
        w.growth(8, 200);
        same("by 8", menu(w, 1), "9 2 19 0");
        w.growth(1, 200);
        same("by 1", menu(w, 1), "2 2 5 0");
    }

    private static void context() {
        sentence("as the PLACE of a SIGN comes, ORDER is BACK, but no more than how many SIGNS are ahead of it; no SIGN is LEFT OUT.");
        Rangecodermill x = mill(3, "");
        for (int back = 0; back <= 2; back++) {
            x.back(back, 4);
            same("none ahead, back " + back, menu(x, 2), "1 1 1 0");
        }
        type(x, "a");
        for (int back = 0; back <= 2; back++) {
            x.back(back, 4);
            same("one ahead, back " + back, menu(x, 2), "1 0 0 1");
        }
        Rangecodermill y = mill(3, "bab");
        y.back(0, 4);
        same("back 0", menu(y, 2), "1 2 0 2");
        y.back(1, 4);
        same("back 1, behind b", menu(y, 2), "1 0 0 1");
        y.back(2, 4);
        same("back 2, behind ab: none, so by order 1", menu(y, 2), "1 0 0 1");
        type(y, "cab");
        same("back 2, behind ab", menu(y, 2), "0 0 1 1");
        y.back(1, 4);
        same("back 1, behind b", menu(y, 2), "1 0 1 2");
        sentence("how often each SIGN came so far right behind the same n SIGNS as are right ahead now (by 0 how often it came at all)");
        Rangecodermill z = mill(2, "aaa");
        z.back(2, 4);
        same("they may overlap", menu(z, 2), "1 0 1");
        type(z, "a");
        same("twice", menu(z, 2), "2 0 1");
        z.back(1, 4);
        same("by order 1", menu(z, 2), "3 0 1");
        z.back(0, 4);
        same("by order 0", menu(z, 2), "4 0 1");
        Rangecodermill u = mill(2, "aba");
        u.back(2, 4);
        // ba has not come before, behind a came b
        same("the last signs alone, not some of them", menu(u, 2), "0 1 1");
        sentence("If there are no FOLLOWERS, ORDER is 1 less, at once.");
        Rangecodermill v = mill(3, "abc");
        v.back(2, 4);
        // each place: no followers by order 2 and 1, so by order 0 at once; there the escape leaves all out that came
        same("no menus for orders without followers", choices(v, 2), "0 0 1 3, 3 1 1 2, 1 0 1 2, 3 2 2 4, 2 0 1 1");
        same("behind abc by order 0", menu(v, 2), "1 1 1 0");
    }

    private static void contextEscapes() {
        sentence("if there is a SIGN that is neither a FOLLOWER nor LEFT OUT, the ESCAPE as the last CHOICE (its number is how "
            + "many SIGNS there are), with how many unlike FOLLOWERS there are as its PART.");
        Rangecodermill x = mill(2, "ab");
        x.back(0, 4);
        same("all are followers: none", menu(x, 2), "1 1 0");
        Rangecodermill y = mill(3, "ab");
        y.back(0, 4);
        same("one is none: 2 unlike ones", menu(y, 2), "1 1 0 2");
        type(y, "bbb");
        same("as many unlike ones still", menu(y, 2), "1 4 0 2");
        Rangecodermill z = mill(6, "abcde");
        z.back(0, 4);
        same("6 by six signs", menu(z, 2), "1 1 1 1 1 0 5");
        type(z, "f");
        same("no more", menu(z, 2), "1 1 1 1 1 1 0");
        sentence("With the ESCAPE all these FOLLOWERS are LEFT OUT, and ORDER is 1 less.");
        // b b a a and then b: behind a came a alone, escape; by order 0 a is left out, and with two signs none is left: no escape
        same("left out, and no escape", choices(mill(2, "bbaab"), 2),
            "1 1 1 2, 1 0 1 2, 2 1 1 2, 0 0 1 1, 0 0 1 3, 2 1 1 2, 1 0 2 2");
        // with three signs c is neither: an escape with 1, as b alone is a follower
        same("left out, with an escape", facts(mill(3, "bbaab"), 2, 6, 0, 3), "1 0 2 3");
        // behind a came b and c: escape with 2; by order 0 a came three times, d is neither: escape with 1; then d is left alone
        Rangecodermill u = mill(4, "abacad");
        int last = u.steps(2) - 1;
        same("both are left out", facts(u, 2, last - 2, 0, 3) + ", " + facts(u, 2, last - 1, 0, 3) + ", " + facts(u, 2, last, 0, 3),
            "4 2 2 4, 4 3 1 4, 3 0 1 1");
        sentence("With a SIGN the next PLACE comes.");
        same("none is left out there", menu(u, 2), "3 1 1 1 0");
        sentence("By ORDER -1: a MENU of all SIGNS that are not LEFT OUT, each with the PART 1.");
        Rangecodermill v = mill(4, "bd");
        // by order 0 there is b alone, escape; then a, c and d are left
        same("a, c, d", choices(v, 2), "1 1 1 4, 4 1 1 2, 3 2 1 3");
        Rangecodermill w = mill(6, "f");
        same("all six", choices(w, 2), "5 5 1 6");
    }

    private static void mixed() {
        sentence("the PART of each is 1, and SHARE * 16 * its WEIGHT / (the sum of all WEIGHTS), and (8 - SHARE) * 16 * its COUNT "
            + "/ (the sum of all COUNTS), with COUNTS as by COUNTED (each of the two is divided by itself).");
        // 64 * 2 / 3 is 42, twice: 84, though 128 * 2 / 3 is 85
        same("divided by itself", menu(mill(2, "", 2, 1), 3), "85 43 0");
        Rangecodermill x = mill(6, "", 30, 30, 30, 30, 30, 1);
        x.back(1, 8);
        same("never less than 1", menu(x, 3), "26 26 26 26 26 1 0");
        x.back(1, 0);
        x.growth(1, 20);
        // the counts are 2 2 2 2 2 1 by halves: 128 * 2 / 11 is 23, 128 / 11 is 11
        same("counts are halved at first, too", menu(x, 3), "24 24 24 24 24 12 0");
        Rangecodermill y = mill(2, "aaaa", 1, 3);
        y.back(1, 8);
        same("share 8: by weights alone", menu(y, 3), "33 97 0");
        y.back(1, 0);
        // the counts are 5 and 3
        same("share 0: by counts alone", menu(y, 3), "81 49 0");
        y.back(1, 7);
        // 112 / 4 and 16 * 5 / 8; 112 * 3 / 4 and 16 * 3 / 8
        same("share 7", menu(y, 3), "39 91 0");
        y.back(1, 1);
        // 16 / 4 and 112 * 5 / 8; 16 * 3 / 4 and 112 * 3 / 8
        same("share 1", menu(y, 3), "75 55 0");
    }

    private static void steps() {
        sentence("STEPS of a TEXT: the CHOICES that tell it, MENU by MENU.");
        Rangecodermill x = mill(3, "");
        for (int m = 0; m < 4; m++) {
            same("of no text by " + m, x.steps(m), 0);
        }
        type(x, "abcabcabcabcabca");
        for (int m = 0; m < 4; m++) {
            // by 2 the first b and the first c take an escape each
            same("of the longest by " + m, x.steps(m), m == 2 ? 18 : 16);
        }
        sentence("knows at each place only the SIGNS ahead of it");
        for (int m = 0; m < 4; m++) {
            Rangecodermill shorter = mill(3, "abcabcabcabcabca");
            shorter.rub(9);
            same("the first steps of a longer text by " + m, choices(x, m).startsWith(choices(shorter, m)), true);
            shorter.rub(6);
            same("the first step alone by " + m, choices(shorter, m), "0 0 " + (m == 3 ? "43 129" : "1 3"));
        }
        sentence("each with a PART of 1 or more; their sum is the WHOLE of the MENU. AHEAD of a CHOICE: the sum of the PARTS of all "
            + "CHOICES ahead of it.");
        wholes(mill(6, "f", 30, 30, 30, 30, 30, 1));
        wholes(mill(3, "abacabca"));
        wholes(mill(4, "dddddddc", 1, 1, 1, 30));
        sentence("NONE without such a STEP.");
        same("the last one", x.ofStep(2, 17, 0), 0);
        for (int what = 0; what <= 7; what++) {
            same("behind the last", x.ofStep(0, 16, what) + x.ofStep(2, 18, what) + x.ofStep(3, MAX, what), -3);
            same("of no text", mill(3, "").ofStep(1, 0, what), -1);
        }
        sentence("Throws `IllegalArgumentException` if model is not 0 to 3, nth is below 0, or what not 0 to 7");
        refused("model -1", x, ARGUMENT, () -> x.ofStep(-1, 0, 0));
        refused("model 4", x, ARGUMENT, () -> x.ofStep(4, 0, 0));
        refused("nth -1", x, ARGUMENT, () -> x.ofStep(0, -1, 0));
        refused("what -1", x, ARGUMENT, () -> x.ofStep(0, 0, -1));
        refused("what 8", x, ARGUMENT, () -> x.ofStep(0, 0, 8));
        refused("what 8 without such a step", x, ARGUMENT, () -> x.ofStep(0, 99, 8));
        sentence("Returns its PART in the MENU that comes behind all of TYPED; 0, if it is not in it.");
        same("behind a full text", menu(x, 0) + ", " + menu(x, 1) + ", " + menu(x, 2), "1 1 1 0, 7 6 6 0, 0 5 0 1");
        same("no escape by fixed, counted, mixed", x.next(0, 3) + x.next(1, 3) + x.next(3, 3), 0);
        sentence("Throws `IllegalArgumentException` if model is not 0 to 3, or choice is not 0 to how many SIGNS there are");
        refused("choice -1", x, ARGUMENT, () -> x.next(0, -1));
        refused("choice 4 of three signs", x, ARGUMENT, () -> x.next(2, 4));
        refused("model 4", x, ARGUMENT, () -> x.next(4, 0));
        same("choice 6 of six signs", mill(6, "a").next(2, 6), 1);
        Rangecodermill two = mill(2, "a");
        refused("choice 3 of two signs", two, ARGUMENT, () -> two.next(2, 3));
    }

    /** What next() tells is what ofStep() tells of the sign that is typed then. */
    private static void wholes(Rangecodermill x) {
        int signs = x.house(0);
        for (int m = 0; m < 4; m++) {
            int steps = x.steps(m);
            int whole = 0;
            for (int choice = 0; choice <= signs; choice++) {
                whole += x.next(m, choice);
            }
            int ahead = 0;
            for (int sign = 0; sign < signs; sign++) {
                int part = x.next(m, sign);
                x.say(sign, -1, -1, -1, -1, -1);
                String due = part > 0 ? sign + " " + ahead + " " + part + " " + whole : signs + " " + ahead(x, m, signs) + " ";
                same("sign " + sign + " by " + m, facts(x, m, steps, 0, 3).startsWith(due), true);
                same("its whole by " + m, x.ofStep(m, steps, 3), whole);
                x.rub(1);
                ahead += part;
            }
        }
    }

    /** Of the ESCAPE of the MENU that came ahead of the last sign. */
    private static int ahead(Rangecodermill x, int model, int signs) {
        int last = x.house(1) - 1;
        Rangecodermill y = mill(signs, x.typed().substring(0, last));
        y.back(x.house(4), x.house(5));
        int sum = 0;
        for (int sign = 0; sign < signs; sign++) {
            sum += y.next(model, sign);
        }
        return sum;
    }

    // ---- the mill

    private static void carries() {
        sentence("LOW is 0 and RANGE 65536 at first; there are no BYTES.");
        same("a", milled(mill(2, "a"), 0, 0), "0 32768 0 0");
        same("b", milled(mill(2, "b"), 0, 0), "32768 32768 0 0");
        sentence("If LOW is 65536 or more, it is 65536 less, and a CARRY runs on");
        same("65535", milled(mill(4, "abcbcb", 3, 3, 2, 4), 0, 5), "65535 1791 1 0");
        same("65536", milled(mill(4, "ccdcd", 7, 9, 8, 7), 0, 4), "0 14336 1 1");
        // 110335 - 65536
        same("more", milled(mill(3, "bcc", 24, 3, 1), 0, 2), "44799 2285 1 1");
        sentence("the last BYTE grows by 1; if it was 255, it is 0, and the one ahead of it grows, and so on.");
        Rangecodermill x = mill(3, "babbc", 24, 1, 14);
        same("two bytes before", milled(x, 0, 3), "61440 43520 2 0");
        // 61440 + 43520 / 39 * 25 is 89315, 65536 and 23779
        same("255 and the one ahead", milled(x, 0, 4), "23779 15610 2 2");
        Rangecodermill w = mill(3, "ccb", 30, 3, 2);
        same("254 becomes 255, and no more", milled(w, 0, 2) + " " + w.bits(0), "44964 4650 1 1 11111111" + "1011");
        Rangecodermill y = mill(4, "adcbdbaadbcadcdc", 8, 30, 10, 22);
        y.growth(3, 118);
        same("twice 255 and the one ahead", y.ofStep(1, 14, 7), 3);
        Rangecodermill z = mill(4, "bbcd", 14, 1, 1, 1);
        // 66021 - 65536 is 485: 1 and 229; the byte that comes then is none that the carry made other
        same("a carry, and a byte at once", milled(z, 0, 3), "58624 51200 2 1");
        same("none behind it", mill(4, "bbcda", 14, 1, 1, 1).ofStep(0, 4, 7), 0);
    }

    private static void bytes() {
        sentence("Then, as long as RANGE is below 256: a BYTE comes, LOW / 256; LOW is (LOW modulo 256) * 256, RANGE 256 times as much.");
        same("256", milled(mill(2, "aa", 1, 15), 0, 1), "0 256 0 0");
        // LOW was 33350, 130 * 256 + 70
        same("255", milled(mill(3, "bb", 23, 3, 22), 0, 1), "17920 65280 1 0");
        // LOW was 29050, 113 * 256 + 122
        same("1", milled(mill(6, "cefb", 30, 1, 30, 30, 30, 10), 0, 3), "31232 256 1 0");
        sentence("UNIT is RANGE / WHOLE; LOW grows by UNIT * AHEAD; RANGE is UNIT * PART.");
        // 65536 / 3 is 21845, three times that is 65535
        same("divided downwards", milled(mill(3, "c"), 0, 0), "43690 21845 0 0");
        same("then by 21845", milled(mill(3, "cc"), 0, 1), "58252 7281 0 0");
        // behind the escape one sign is left: UNIT is RANGE itself
        same("a menu of one", milled(mill(2, "ab"), 2, 1) + ", " + milled(mill(2, "ab"), 2, 2), "16384 16384 0 0, 16384 16384 0 0");
    }

    private static void bits() {
        sentence("with k the greatest number of 0 to 16 for which some multiple x of 2^k is LOW or more, and x + 2^k is LOW + RANGE "
            + "or less (x is the smallest such one)");
        same("16: no bits", mill(2, "").bits(0), "");
        // 0 to 39321, and 32768 fits
        same("15: one bit", mill(2, "a", 9, 6).bits(0), "0");
        same("x is LOW itself", mill(2, "b").bits(0), "1");
        // 43690 to 65535: 49152 + 16384 is 65536 and 1 too much, 49152 + 8192 does
        same("x + 2^k would be LOW + RANGE and 1", mill(3, "c").bits(0), "110");
        // 27648 + 37888 is 65536
        Rangecodermill x = mill(3, "bb", 11, 1, 9);
        same("x + 2^k is LOW + RANGE", milled(x, 0, 1) + " " + x.bits(0), "27648 37888 1 0 100011001");
        // 65212 and 290: 65280 and 128; 65280 + 256 is 65536, above 65502
        Rangecodermill y = mill(2, "bb", 28, 2);
        same("7: nine bits", milled(y, 0, 1) + " " + y.bits(0), "65212 290 0 0 111111110");
        // 0 to 21845: both 0 and 8192 would do with 13, 0 with 14
        same("the smallest x", mill(3, "a").bits(0), "00");
        // 32769 and 7695: 32768 is no more, and 36864 + 4096 is above 40464; so 34816 and 2048
        Rangecodermill w = mill(4, "bc", 7, 16, 9, 3);
        same("x is LOW or more, not 1 less", milled(w, 0, 1) + " " + w.bits(0), "32769 7695 0 0 10001");
        sentence("if x is 65536 or more, it is 65536 less, and a CARRY runs on (for BITS alone)");
        // 58368 and 37888: 65536 with 14; the byte was 114, 01110010
        Rangecodermill z = mill(3, "bb", 9, 1, 11);
        same("a carry", milled(z, 0, 1) + " " + z.bits(0), "58368 37888 1 0 0111001100");
        same("LOW and RANGE stay", milled(z, 0, 1), "58368 37888 1 0");
        type(z, "a");
        same("no carry for the next sign", milled(z, 0, 2), "58368 16236 1 0");
        Rangecodermill u = mill(4, "dabacd", 15, 27, 29, 3);
        same("a carry over 255", milled(u, 0, 5) + " " + u.bits(0), "52480 39168 2 0 111101100000000000");
        sentence("then 8 BITS for each BYTE, and the first 16 - k of the 16 BITS of x (each number with its greatest BIT first");
        Rangecodermill v = mill(4, "abcdabcdb");
        same("one byte", v.ofStep(0, 7, 6), 1);
        same("two bytes of 27, and two bits", v.ofStep(0, 8, 6) + " " + v.bits(0), "2 00011011" + "00011011" + "01");
        v.rub(1);
        same("one byte of 27, and eight bits", v.bits(0), "00011011" + "00011011");
    }

    private static void reading() {
        sentence("BITS, as if \"0\" without end followed.");
        Rangecodermill x = mill(3, "");
        x.keep(0);
        for (int m = 0; m < 4; m++) {
            same("of no bits by " + m, x.read(0, m, 16), "aaaaaaaaaaaaaaaa");
        }
        same("of one bit", keeping("1").read(0, 0, 16), "baaaaaaaaaaaaaaa");
        sentence("HIT is (CODE - LOW) / UNIT, but at most WHOLE - 1; taken is the CHOICE with the greatest AHEAD that is HIT or less.");
        Rangecodermill y = keeping("1111111111111111");
        y.signs(3);
        // 65535 / 21845 is 3, so 2; then CODE - LOW stays RANGE or more
        same("at most WHOLE - 1", y.read(0, 0, 16), "cccccccccccccccc");
        same("by six signs", sixOnes(), "ffffffffffffffff");
        Rangecodermill z = keeping("0101010101010101");
        z.signs(3);
        same("21845 / 21845 is 1", z.read(0, 0, 1), "b");
        z.turn(0, 15);
        same("21844 / 21845 is 0", z.read(0, 0, 1), "a");
        Rangecodermill u = keeping("1010101010101010");
        u.signs(3);
        same("43690 / 21845 is 2", u.read(0, 0, 1), "c");
        u.turn(0, 14);
        u.turn(0, 15);
        same("43689 / 21845 is 1", u.read(0, 0, 1), "b");
        sentence("LOW and RANGE become other as above, but without a CARRY (LOW may be 65536 or more)");
        Rangecodermill v = mill(3, "babbc", 24, 1, 14);
        same("what carried is read", v.read(v.keep(0), 0, 5), "babbc");
        Rangecodermill w = mill(4, "ccdcd", 7, 9, 8, 7);
        same("what carried to 65536 is read", w.read(w.keep(0), 0, 5), "ccdcd");
        Rangecodermill t = mill(4, "dabacd", 15, 27, 29, 3);
        same("what carried for bits alone is read", t.read(t.keep(0), 0, 6), "dabacd");
        sentence("(LOW and CODE may have any size here; what counts is CODE - LOW.)");
        // CODE - LOW is RANGE or more from the first sign on, and grows by fifteen bytes
        Rangecodermill p = keeping("1111111111111111");
        p.signs(6);
        for (int sign = 0; sign < 5; sign++) {
            p.weight(sign, 30);
        }
        for (int m = 0; m < 4; m++) {
            // by 2 the escape is the last choice as long as it is there: f leaves out more each time
            same("far beyond RANGE by " + m, p.read(0, m, 16), m == 2 ? "fedcbaffdfcfbfae" : "ffffffffffffffff");
        }
        sentence("as long as RANGE is below 256, all of LOW and CODE get one BYTE more");
        Rangecodermill r = mill(2, "aa", 1, 15);
        same("RANGE 256", r.read(r.keep(0), 0, 2), "aa");
        Rangecodermill s = mill(6, "cefbcefb", 30, 1, 30, 30, 30, 10);
        same("RANGE 1", s.read(s.keep(0), 0, 8), "cefbcefb");
        // the 17th bit comes with the first BYTE more
        Rangecodermill q = mill(4, "abcdabcdb");
        same("the bits behind the first 16", q.read(q.keep(0), 0, 9), "abcdabcdb");
    }

    private static String sixOnes() {
        Rangecodermill x = keeping("1111111111111111");
        x.signs(6);
        return x.read(0, 0, 16);
    }

    private static void readingOthers() {
        sentence("So one reads, till there are as many SIGNS as are wanted.");
        Rangecodermill x = mill(3, "cab");
        x.keep(2);
        same("none", x.read(0, 2, 0), "");
        same("fewer", x.read(0, 2, 2), "ca");
        same("as many", x.read(0, 2, 3), "cab");
        same("the most", x.read(0, 2, 16).length(), 16);
        same("the first of them stay", x.read(0, 2, 16).substring(0, 3), "cab");
        sentence("Throws `IllegalArgumentException` if model is not 0 to 3, or length not 0 to 16");
        refused("read of 17", x, ARGUMENT, () -> x.read(0, 0, 17));
        refused("read of -1", x, ARGUMENT, () -> x.read(0, 0, -1));
        refused("read by 4", x, ARGUMENT, () -> x.read(0, 4, 0));
        refused("read by -1", x, ARGUMENT, () -> x.read(0, -1, 0));
        refused("take of 17", x, ARGUMENT, () -> x.take(0, 0, 17));
        refused("take of -1", x, ARGUMENT, () -> x.take(0, 0, -1));
        refused("take by 4", x, ARGUMENT, () -> x.take(0, 4, 0));
        refused("take by -1", x, ARGUMENT, () -> x.take(0, -1, 0));
        sentence("Returns in how many places it is unlike what was TYPED before (places that one of both has alone count, too).");
        same("the same", x.take(0, 2, 3), 0);
        same("two that were there alone", x.take(0, 2, 1) + x.typed(), "2c");
        same("two that are there alone", x.take(0, 2, 3) + x.typed(), "2cab");
        x.rub(3);
        type(x, "bab");
        same("the first one", x.take(0, 2, 3), 1);
        x.rub(3);
        type(x, "cac");
        same("the last one", x.take(0, 2, 3), 1);
        x.rub(3);
        same("all", x.take(0, 2, 3), 3);
        same("all gone", x.take(0, 2, 0), 3);
        same("none and none", x.take(0, 2, 0), 0);
        same("sixteen", x.take(0, 2, 16), 16);
    }

    // ---- exact bounds

    private static void exactBounds() {
        sentence("TEXT of one: the top, and, if the bottom is not 1, \"/\" and the bottom.");
        Rangecodermill x = mill(3, "");
        same("of no text", x.bound(0, false) + " " + x.bound(0, true), "0 1");
        type(x, "a");
        same("lower 0", x.bound(0, false) + " " + x.bound(0, true), "0 1/3");
        x.rub(1);
        type(x, "ccc");
        same("upper 1", x.bound(0, false) + " " + x.bound(0, true), "26/27 1");
        sentence("all exactly, as fractions in lowest terms");
        same("6/36 to 12/36", mill(3, "b", 6, 6, 24).bound(0, false) + " " + mill(3, "b", 6, 6, 24).bound(0, true), "1/6 1/3");
        // 1/1 by the menu of one behind the escape, so the escape's bounds stay
        same("a menu of one", mill(2, "ab").bound(2, false) + " " + mill(2, "ab").bound(2, true), "1/4 1/2");
        // 2/4 of what is left, twice
        same("a power of 2", mill(4, "cc", 5, 5, 5, 5).bound(0, false) + " " + mill(4, "cc", 5, 5, 5, 5).bound(0, true), "5/8 11/16");
        Rangecodermill y = mill(6, "ffffffffffffffff", 29, 30, 30, 30, 30, 30);
        BigInteger bottom = BigInteger.valueOf(179).pow(16);
        same("many digits", y.bound(0, false), bottom.subtract(BigInteger.valueOf(30).pow(16)) + "/" + bottom);
        same("and 1", y.bound(0, true), "1");
        refused("model 4", y, ARGUMENT, () -> y.bound(4, true));
        refused("model -1", y, ARGUMENT, () -> y.bound(-1, false));
        for (Rangecodermill mill : longOnes()) {
            for (int m = 0; m < 4; m++) {
                BigInteger[] exact = exactOf(mill, m);
                same("lower one by " + m, mill.bound(m, false), fraction(exact[0], exact[2]));
                same("upper one by " + m, mill.bound(m, true), fraction(exact[0].add(exact[1]), exact[2]));
            }
        }
    }

    /** Texts whose bounds have many digits, zeros among them. */
    private static Rangecodermill[] longOnes() {
        Rangecodermill limits = mill(6, "fedcbaabcdeffeda", 29, 30, 30, 30, 30, 30);
        limits.growth(8, 200);
        Rangecodermill primes = mill(4, "dddddddddddddddd", 30, 30, 30, 29);
        primes.growth(8, 199);
        Rangecodermill zeros = mill(4, "aaaaaaaabbbbbbbb", 16, 16, 8, 10);
        Rangecodermill tens = mill(3, "cbabcbabcbabcbab", 8, 8, 4);
        Rangecodermill mixes = mill(5, "abcdeedcbaaabbcc", 1, 30, 1, 30, 1);
        mixes.back(2, 1);
        return new Rangecodermill[] {limits, primes, zeros, tens, mixes};
    }

    /** The lower bound and the distance, above one bottom, of the STEPS as they are told. */
    private static BigInteger[] exactOf(Rangecodermill x, int model) {
        BigInteger lower = BigInteger.ZERO;
        BigInteger distance = BigInteger.ONE;
        BigInteger bottom = BigInteger.ONE;
        for (int nth = 0; nth < x.steps(model); nth++) {
            BigInteger whole = BigInteger.valueOf(x.ofStep(model, nth, 3));
            lower = lower.multiply(whole).add(distance.multiply(BigInteger.valueOf(x.ofStep(model, nth, 1))));
            distance = distance.multiply(BigInteger.valueOf(x.ofStep(model, nth, 2)));
            bottom = bottom.multiply(whole);
        }
        return new BigInteger[] {lower, distance, bottom};
    }

    private static String fraction(BigInteger top, BigInteger bottom) {
        BigInteger shared = top.gcd(bottom);
        return top.divide(shared) + (shared.equals(bottom) ? "" : "/" + bottom.divide(shared));
    }

    private static int leastOf(BigInteger[] exact) {
        int n = 0;
        while (exact[1].shiftLeft(n).compareTo(exact[2]) < 0) {
            n++;
        }
        return n;
    }

    private static int exactBitsOf(BigInteger[] exact) {
        int n = 0;
        for (;; n++) {
            BigInteger m = exact[0].shiftLeft(n).add(exact[2]).subtract(BigInteger.ONE).divide(exact[2]);
            if (m.add(BigInteger.ONE).multiply(exact[2]).compareTo(exact[0].add(exact[1]).shiftLeft(n)) <= 0) {
                return n;
            }
        }
    }

    private static void exactBits() {
        sentence("LEAST: the smallest n for which 1 / 2^n is the distance or less.");
        same("1", mill(3, "").least(0, false), 0);
        same("1/2", mill(2, "a").least(0, false), 1);
        same("1/4 itself", mill(2, "b", 3, 1).least(0, false), 2);
        same("less than 1/4", mill(2, "b", 10, 3).least(0, false), 3);
        same("more than 1/4", mill(2, "b", 8, 3).least(0, false), 2);
        same("more than 1/2", mill(2, "a", 8, 3).least(0, false), 1);
        same("1/2^16", mill(2, "abababababababab").least(0, false), 16);
        sentence("EXACT BITS: the smallest n for which some whole number m is there so that m / 2^n is the lower bound or more, "
            + "and (m + 1) / 2^n the upper bound or less.");
        same("0 to 1", mill(3, "").least(0, true), 0);
        same("1/2 to 1", mill(2, "b").least(0, true), 1);
        same("3/4 to 1", mill(2, "b", 3, 1).least(0, true), 2);
        same("0 to 3/4", mill(2, "a", 3, 1).least(0, true), 1);
        same("1/3 to 2/3: 3/8 to 4/8", mill(3, "b").least(0, true), 3);
        same("2/3 to 1: 3/4 to 1", mill(3, "c").least(0, true), 2);
        // 1/4 to 3/4: no half fits, 1/4 does
        same("1/4 to 3/4", mill(3, "b", 1, 2, 1).least(0, true) + " " + mill(3, "b", 1, 2, 1).least(0, false), "2 1");
        same("1/4 to 1", mill(2, "b", 1, 3).least(0, true), 1);
        same("as many as LEAST", mill(2, "abababababababab").least(0, true), 16);
        // 5/16 to 11/16: 3/8 to 4/8 and 4/8 to 5/8
        same("5/16 to 11/16", mill(3, "b", 5, 6, 5).least(0, true) + " " + mill(3, "b", 5, 6, 5).least(0, false), "3 2");
        for (Rangecodermill mill : longOnes()) {
            for (int m = 0; m < 4; m++) {
                same("LEAST of a long one by " + m, mill.least(m, false), leastOf(exactOf(mill, m)));
                same("EXACT BITS of a long one by " + m, mill.least(m, true), exactBitsOf(exactOf(mill, m)));
            }
        }
    }

    private static void costs() {
        sentence("COST of a TEXT by a MODEL: how many BITS it has.");
        Rangecodermill x = mill(3, "");
        for (int m = 0; m < 4; m++) {
            same("of no text by " + m, x.cost(m), 0);
        }
        same("of one bit", mill(2, "a").cost(0), 1);
        same("of nine bits without a byte", mill(2, "bb", 28, 2).cost(0), 9);
        same("of two bytes", mill(4, "abcdabcd").cost(0), 16);
        sentence("Throws `IllegalArgumentException` if model is not 0 to 3");
        for (int bad : new int[] {MIN, -1, 4, MAX}) {
            refused("bound(" + bad + ", true)", x, ARGUMENT, () -> x.bound(bad, true));
            refused("keep(" + bad + ")", x, ARGUMENT, () -> x.keep(bad));
            refused("cost(" + bad + ")", x, ARGUMENT, () -> x.cost(bad));
            refused("bits(" + bad + ")", x, ARGUMENT, () -> x.bits(bad));
            refused("steps(" + bad + ")", x, ARGUMENT, () -> x.steps(bad));
            refused("least(" + bad + ", true)", x, ARGUMENT, () -> x.least(bad, true));
        }
    }

    private static void textsOfALength() {
        sentence("of all TEXTS of that length the first one with the smallest, and with the greatest COST (TEXTS by their SIGNS, as in "
            + "a dictionary).");
        same("all alike: the first", mill(2, "").extreme(0, 4, true) + mill(2, "").extreme(0, 4, false), "aaaaaaaa");
        // a costs 2, b 3, c 3
        same("the first of two dearest", mill(3, "").extreme(0, 1, true), "b");
        same("the cheapest", mill(3, "").extreme(0, 1, false), "a");
        // 3, 2, 2: 0 to 1/6, 1/6 to 3/6, 3/6 to 1 cost 3, 2, 1
        same("the last is cheapest", mill(3, "", 1, 2, 3).extreme(0, 1, false) + mill(3, "", 1, 2, 3).extreme(0, 1, true), "ca");
        same("of no length", mill(3, "abc").extreme(1, 0, true) + mill(3, "abc").extreme(1, 0, false), "");
        same("costs of no length", mill(3, "abc").allCosts(1, 0), 0);
        same("not of what is typed", mill(3, "ccc").extreme(1, 1, false), "a");
        sentence("Throws `IllegalArgumentException` if model is not 0 to 3, length is not 0 to 4, or there would be more than 100 TEXTS of it");
        int[] longest = {4, 4, 3, 2, 2};
        for (int signs = 2; signs <= 6; signs++) {
            Rangecodermill x = mill(signs, "ab");
            int most = longest[signs - 2];
            same(signs + " signs, length " + most, x.extreme(0, most, true).length(), most);
            same(signs + " signs, all costs", x.allCosts(0, most) > 0, true);
            refused(signs + " signs, a longer length", x, ARGUMENT, () -> x.extreme(0, most + 1, true));
            refused(signs + " signs, all costs of a longer length", x, ARGUMENT, () -> x.allCosts(0, most + 1));
            for (int length : new int[] {MIN, -1, 5, 16, 32, MAX}) {
                refused(signs + " signs, length " + length, x, ARGUMENT, () -> x.extreme(0, length, false));
                refused(signs + " signs, all costs of " + length, x, ARGUMENT, () -> x.allCosts(0, length));
            }
            for (int model : new int[] {MIN, -1, 4, MAX}) {
                refused("extreme by " + model, x, ARGUMENT, () -> x.extreme(model, 0, true));
                refused("all costs by " + model, x, ARGUMENT, () -> x.allCosts(model, 0));
            }
        }
        sentence("Returns the sum of the COSTS of all TEXTS of that length.");
        same("16 of four bits", mill(2, "").allCosts(0, 4), 64);
        same("2, 3, 3", mill(3, "").allCosts(0, 1), 8);
        same("16 of four bits by four", mill(4, "").allCosts(0, 2), 64);
        allTexts(mill(3, "ccc", 1, 7, 30), 4);
        allTexts(mill(4, "", 9, 1, 3, 30), 3);
        allTexts(mill(6, "f", 1, 2, 3, 4, 5, 6), 2);
        Rangecodermill x = mill(2, "", 20, 1);
        x.growth(8, 20);
        x.back(2, 1);
        allTexts(x, 4);
    }

    /** Types each text of the lengths up to that one by itself, on another mill that is told the same. */
    private static void allTexts(Rangecodermill x, int most) {
        int signs = x.house(0);
        Rangecodermill y = mill(signs, "");
        for (int s = 0; s < signs; s++) {
            y.weight(s, x.weightOf(s));
        }
        y.growth(x.house(2), x.house(3));
        y.back(x.house(4), x.house(5));
        for (int m = 0; m < 4; m++) {
            for (int length = 0; length <= most; length++) {
                int sum = 0;
                int[] costs = {MAX, -1};
                String[] texts = {"", ""};
                for (int n = 0; n < Math.pow(signs, length); n++) {
                    y.rub(16);
                    for (int place = length - 1; place >= 0; place--) {
                        y.say(n / (int) Math.pow(signs, place) % signs, -1, -1, -1, -1, -1);
                    }
                    int cost = y.cost(m);
                    sum += cost;
                    if (cost < costs[0]) {
                        costs[0] = cost;
                        texts[0] = y.typed();
                    }
                    if (cost > costs[1]) {
                        costs[1] = cost;
                        texts[1] = y.typed();
                    }
                }
                same("all costs by " + m + " of " + length, x.allCosts(m, length), sum);
                same("cheapest by " + m + " of " + length, x.extreme(m, length, false), texts[0]);
                same("dearest by " + m + " of " + length, x.extreme(m, length, true), texts[1]);
            }
        }
    }

    // ---- blocks, what is learned

    private static void blocks() {
        sentence("\"\" if TYPED is empty.");
        same("blocks()", mill(3, "").blocks(), "");
        sentence("Returns the sum that the best BLOCKS COST (0 if TYPED is empty).");
        same("blockCost()", mill(3, "").blockCost(), 0);
        sentence("BLOCKS part TYPED into one piece or more, of one SIGN or more each; each has a MODEL, that begins anew with it, "
            + "and COSTS 2 more than its COST.");
        same("one sign", mill(2, "a").blocks() + " " + mill(2, "a").blockCost(), "1:0 3");
        same("the longest", mill(2, "abbabaabbaababba").blocks() + " " + mill(2, "abbabaabbaababba").blockCost(), "16:0 18");
        // ab by counts that begin anew costs as a text of its own
        Rangecodermill x = mill(2, "bbba", 1, 7);
        same("two pieces", x.blocks() + " " + x.blockCost(), "3:0 1:2 6");
        same("each by itself", mill(2, "bbb", 1, 7).cost(0) + mill(2, "a", 1, 7).cost(2) + 4, 6);
        Rangecodermill y = mill(4, "caac", 21, 1, 1, 1);
        y.growth(2, 100);
        y.back(2, 2);
        same("three pieces", y.blocks() + " " + y.blockCost(), "1:2 2:0 1:2 11");
    }

    private static void bestBlocks() {
        sentence("of several those whose first one is longest, of several of these that whose MODEL is the smallest number, then "
            + "likewise by the second one, and so on.");
        same("one for 10, not two for 10", mill(4, "ccaa").blocks() + " " + mill(4, "ccaa").blockCost(), "4:0 10");
        same("3 and 1 for 7, not 2 and 2", mill(2, "bbba", 1, 26).blocks() + " " + mill(2, "bbba", 1, 26).blockCost(), "3:0 1:2 7");
        same("the second one, 3 for 12, not 2 and 1", mill(4, "abbc", 28, 1, 22, 1).blocks(), "1:0 3:2");
        same("the smallest model first", mill(2, "baaa").blocks(), "4:0");
        same("1 is smaller than 3", mill(3, "bbbb").blocks(), "4:1");
        same("of the second piece, too", mill(3, "aabb", 1, 24, 1).blocks(), "2:2 2:0");
        same("1 in the second piece", mill(4, "bbaa", 12, 1, 10, 1).blocks(), "2:2 2:1");
        same("3 alone", mill(3, "aaac").blocks(), "4:3");
        sentence("for each its length, \":\" and its MODEL, with a blank between two");
        Rangecodermill u = mill(4, "abcdabcdabcdabcd");
        same("a length of two digits", u.blocks(), "16:2");
    }

    private static void learned() {
        sentence("the WEIGHT of each SIGN becomes 1 more than how often it stands in TYPED, but at most 30.");
        Rangecodermill x = mill(2, "aaaaaaaaaaaaaaaa", 30, 30);
        same("both are other", x.learn(), 2);
        same("17 and 1", x.weightOf(0) + " " + x.weightOf(1), "17 1");
        x.rub(16);
        same("of no text", x.learn() + " " + x.weightOf(0) + " " + x.weightOf(1), "1 1 1");
        sentence("Returns how many WEIGHTS are other than before.");
        same("none", x.learn(), 0);
        type(x, "ab");
        same("both", x.learn(), 2);
        Rangecodermill six = mill(6, "abcdef");
        same("all six", six.learn(), 6);
        same("none of six", six.learn(), 0);
        sentence("less 5 for each of the SIGNS that there are (what telling them costs).");
        for (int signs = 2; signs <= 6; signs++) {
            same("of no text with " + signs, mill(signs, "").saving(), -5 * signs);
        }
        sentence("SAVING: the COST of TYPED by FIXED with all WEIGHTS 1, less its COST by FIXED with the WEIGHTS that one would learn from it");
        // 16 bits; by 17 and 1 the last sixteen of 18 each: (17 / 18)^16 is 0.4, so 0 to 0.4 costs 2
        same("16 less 2 less 10", mill(2, "aaaaaaaaaaaaaaaa").saving(), 4);
        Rangecodermill y = mill(2, "aaaaaaaaaaaaaaaa", 5, 29);
        y.growth(8, 20);
        same("whatever is told", y.saving(), 4);
        same("and nothing is learned by it", y.weightOf(0) + " " + y.weightOf(1), "5 29");
    }

    // ---- what is kept

    private static void kept() {
        sentence("Throws `IllegalStateException` if 8 are KEPT");
        Rangecodermill x = mill(2, "ab");
        for (int n = 0; n < 8; n++) {
            same("keep number " + n, x.keep(0), n);
        }
        refused("a ninth", x, STATE, () -> x.keep(3));
        same("the last one", x.bitsOf(7), "01");
        sentence("All that is KEPT goes.");
        same("burn() of eight", x.burn(), 8);
        same("burn() of none", x.burn(), 0);
        same("house(7)", x.house(7), 0);
        sentence("Throws `IndexOutOfBoundsException` if nothing is KEPT with that number");
        for (int number : new int[] {MIN, -1, 0, 7, 8, MAX}) {
            refused("bitsOf(" + number + ")", x, INDEX, () -> x.bitsOf(number));
            refused("read(" + number + ", ..)", x, INDEX, () -> x.read(number, 0, 1));
            refused("take(" + number + ", ..)", x, INDEX, () -> x.take(number, 0, 1));
            refused("turn(" + number + ", 0)", x, INDEX, () -> x.turn(number, 0));
        }
        sentence("Returns the number of what is KEPT, from 0 on.");
        same("from 0 again", x.keep(1), 0);
        refused("and 1 is none", x, INDEX, () -> x.bitsOf(1));
        x.turn(0, 0);
        x.burn();
        x.keep(1);
        same("nothing of what went comes back", x.bitsOf(0), x.bits(1));
    }

    private static void turned() {
        sentence("Returns what it is then, 0 or 1; -9 without such a BIT (that is counted, nothing else is changed).");
        Rangecodermill x = mill(2, "ab");
        x.keep(0);
        same("the last bit", x.turn(0, 1) + x.bitsOf(0), "000");
        same("the first bit", x.turn(0, 0) + x.bitsOf(0), "110");
        same("the first bit again", x.turn(0, 0) + x.bitsOf(0), "000");
        same("not counted", x.house(8), 0);
        String before = x.bitsOf(0) + everythingTold(x);
        same("behind the last bit", x.turn(0, 2), -9);
        same("far behind", x.turn(0, MAX), -9);
        same("counted", x.house(8), 2);
        same("nothing else", x.bitsOf(0) + everythingTold(x), before);
        x.rub(2);
        x.keep(0);
        same("of no bits", x.turn(1, 0), -9);
        sentence("Throws `IllegalArgumentException` if bit is below 0");
        refused("turn(0, -1)", x, ARGUMENT, () -> x.turn(0, -1));
        refused("turn(0, MIN)", x, ARGUMENT, () -> x.turn(0, MIN));
        sentence("Returns what is read by it, as long as TYPED, if that BIT is turned; \"!\" without such a BIT.");
        Rangecodermill y = mill(2, "abab");
        same("the first", y.turned(0, 0), "bbab");
        same("the last", y.turned(0, 3), "abaa");
        same("behind the last", y.turned(0, 4), "!");
        same("of no text", mill(2, "").turned(0, 0), "!");
        same("not counted", y.house(8), 0);
        sentence("Throws `IllegalArgumentException` if model is not 0 to 3, or bit is below 0");
        refused("turned(0, -1)", y, ARGUMENT, () -> y.turned(0, -1));
        refused("turned(4, 0)", y, ARGUMENT, () -> y.turned(4, 0));
        refused("turned(-1, 0)", y, ARGUMENT, () -> y.turned(-1, 0));
    }

    /** All of house() but what is counted of -9. */
    private static String everythingTold(Rangecodermill x) {
        StringBuilder all = new StringBuilder();
        for (int what = 0; what <= 9; what++) {
            all.append(what == 8 ? 0 : x.house(what)).append(' ');
        }
        return all.append(x.typed()).append(x.blocks()).toString();
    }

    private static void answersBeyond() {
        sentence("Asks for the first of no BITS: it is counted.");
        Rangecodermill x = mill(2, "ab");
        String before = everythingTold(x);
        same("blank()", x.blank(), -9);
        same("counted", x.house(8), 1);
        same("nothing else", everythingTold(x), before);
        sentence("Returns how often ever, with this.");
        same("knock()", x.knock(), 1);
        same("knock() again", x.knock(), 2);
        x.signs(2);
        x.burn();
        same("however the mill is told anew", x.knock(), 3);
        same("house(9)", x.house(9), 3);
        same("house(8), however the mill is told anew", x.house(8), 1);
        sentence("Throws `IllegalArgumentException` if what is not 0 to 9");
        for (int what : new int[] {MIN, -1, 10, MAX}) {
            refused("house(" + what + ")", x, ARGUMENT, () -> x.house(what));
        }
        sentence("A method that throws an exception changes nothing.");
        Rangecodermill y = mill(3, "abcab", 4, 5, 6);
        y.keep(3);
        String all = everything(y);
        refused("say of a good and a bad one", y, INDEX, () -> y.say(0, 1, 2, 0, 1, 3));
        refused("growth with a good and a bad one", y, ARGUMENT, () -> y.growth(8, 201));
        refused("growth with a bad and a good one", y, ARGUMENT, () -> y.growth(9, 200));
        refused("back with a good and a bad one", y, ARGUMENT, () -> y.back(2, 9));
        refused("back with a bad and a good one", y, ARGUMENT, () -> y.back(3, 8));
        refused("take with a good and two bad ones", y, ARGUMENT, () -> y.take(0, 4, 17));
        refused("signs", y, ARGUMENT, () -> y.signs(7));
        same("all", everything(y), all);
    }

    // ---- sound, checksum

    private static void sound() {
        sentence("the best BLOCKS COST no more than 2 above each COST of TYPED (if it is not empty).");
        same("of no text", mill(6, "").isSound(), true);
        same("of one sign", mill(2, "b", 30, 1).isSound(), true);
        Rangecodermill x = mill(6, "ffffffffffffffff", 30, 30, 30, 30, 30, 1);
        same("of the dearest", x.isSound(), true);
        Rangecodermill y = mill(4, "dabacd", 15, 27, 29, 3);
        same("of what carries for bits alone", y.isSound(), true);
        Rangecodermill z = mill(6, "cefbcefb", 30, 1, 30, 30, 30, 10);
        same("of what comes to RANGE 1", z.isSound(), true);
    }

    private static void checksum() {
        sentence("ofStep() of 0 to 7 for the last STEP (eight times NONE without one)");
        long d = 9161;
        for (int v : new int[] {2, 0, 1, 100, 1, 4, 2, 0, 0, 0, 1, 1}) {
            d = d * 31 + v;
        }
        for (int part : new int[] {1, 1, 1, 65}) {
            // no steps, no bits, no least, no exact bits, "0" and "1", no last step, the menu
            for (int v : new int[] {0, 0, 0, 0, 1, 1, -1, -1, -1, -1, -1, -1, -1, -1, part, part, 0}) {
                d = d * 31 + v;
            }
        }
        // no blocks, no text of them, a saving of -10, sound
        for (int v : new int[] {0, 0, -10, 1}) {
            d = d * 31 + v;
        }
        same("of no text, number by number", mill(2, "").digest(), d);
        sentence("MODEL by MODEL: steps(), cost(), each of the BITS (0 or 1), least() as LEAST, then EXACT BITS, the lengths of bound() "
            + "as the lower one, then the upper one");
        for (Rangecodermill mill : longOnes()) {
            same("of long ones", mill.digest(), digestOf(mill));
        }
        sentence("what is KEPT, one by one: how many BITS, then each; blockCost(); the length of blocks(); saving()");
        Rangecodermill full = mill(4, "abcdabcdabcdabcd", 1, 7, 1, 30);
        for (int n = 0; n < 8; n++) {
            full.rub(n == 0 ? 0 : 2);
            same("keep number " + n, full.keep(n % 4), n);
        }
        same("of eight that are kept, one of none", full.digest(), digestOf(full));
        full.burn();
        same("of none that is kept", full.digest(), digestOf(full));
        Rangecodermill nine = mill(2, "aaaaaaaaa");
        same("a piece of 9", nine.blocks() + (nine.digest() == digestOf(nine)), "9:1true");
        type(nine, "a");
        same("a piece of 10", nine.blocks() + (nine.digest() == digestOf(nine)), "10:1true");
        Rangecodermill two = mill(2, "bbba", 1, 7);
        same("two pieces", two.blocks() + (two.digest() == digestOf(two)), "3:0 1:2true");
        sentence("for each of the following numbers v, d becomes d * 31 + v, which wraps around as a 64-bit integer");
        Rangecodermill x = mill(2, "abababababababab");
        long before = x.digest();
        x.knock();
        same("knocked: another one", x.digest() != before, true);
        Rangecodermill y = mill(2, "abababababababab");
        same("the same calls, the same answer", y.digest(), before);
    }

    private static long digestOf(Rangecodermill x) {
        long d = 9161;
        for (int what = 0; what <= 9; what++) {
            d = d * 31 + x.house(what);
        }
        for (int sign = 0; sign < x.house(0); sign++) {
            d = d * 31 + x.weightOf(sign);
        }
        d = withSigns(d, x.typed(), 'a');
        for (int m = 0; m < 4; m++) {
            d = d * 31 + x.steps(m);
            d = withSigns(d * 31 + x.cost(m), x.bits(m), '0');
            d = d * 31 + x.least(m, false);
            d = d * 31 + x.least(m, true);
            d = d * 31 + x.bound(m, false).length();
            d = d * 31 + x.bound(m, true).length();
            for (int what = 0; what <= 7; what++) {
                d = d * 31 + (x.steps(m) == 0 ? -1 : x.ofStep(m, x.steps(m) - 1, what));
            }
            for (int choice = 0; choice <= x.house(0); choice++) {
                d = d * 31 + x.next(m, choice);
            }
        }
        for (int number = 0; number < x.house(7); number++) {
            d = withSigns(d * 31 + x.bitsOf(number).length(), x.bitsOf(number), '0');
        }
        d = d * 31 + x.blockCost();
        d = d * 31 + x.blocks().length();
        d = d * 31 + x.saving();
        return d * 31 + (x.isSound() ? 1 : 0);
    }

    private static long withSigns(long before, String text, char first) {
        long d = before;
        for (char c : text.toCharArray()) {
            d = d * 31 + (c - first);
        }
        return d;
    }
}
