import java.math.BigInteger;
import java.util.ArrayList;
import java.util.Arrays;
import java.util.List;
import java.util.Objects;

/**
 * Long runs of calls on the class and, beside it, on a slow reading of the document word by word:
 * every answer, thrown exceptions among them, must be the same. The runs are the same each time.
 */
public final class OracleRuns {
    private static final int RUNS = 400;
    private static final int CALLS = 120;
    private static int wrong = 0;

    public static void main(String[] args) {
        for (int run = 0; run < RUNS && wrong < 20; run++) {
            playRun(run);
        }
        System.out.println(wrong == 0 ? "all answers are as the oracle's" : wrong + " answers are not as the oracle's");
        if (wrong != 0) {
            System.exit(1);
        }
    }

    private static void playRun(int run) {
        Dice dice = new Dice(run);
        Rangecodermill mill = new Rangecodermill();
        Oracle oracle = new Oracle();
        StringBuilder told = new StringBuilder();
        for (int n = 0; n < CALLS; n++) {
            Call call = dice.call(run % 4);
            Object got = call.on(mill);
            Object due = call.on(oracle);
            told.append(call).append(" -> ").append(got).append('\n');
            if (!Objects.equals(got, due)) {
                wrong++;
                System.out.println("run " + run + ", due is " + due + " in the last row of\n" + told);
                return;
            }
        }
        for (String last : new String[] {"isSound", "digest"}) {
            Call call = new Call(last);
            Object got = call.on(mill);
            Object due = call.on(oracle);
            if (!Objects.equals(got, due)) {
                wrong++;
                System.out.println("run " + run + ": " + call + " answered " + got + ", due is " + due + " behind\n" + told);
            }
        }
    }

    /** A row of numbers that look thrown, but are the same each time. */
    private static final class Dice {
        private long state;

        Dice(int seed) {
            state = seed * 7919L + 12345;
        }

        int below(int many) {
            state = state * 6364136223846793005L + 1442695040888963407L;
            return (int) Math.floorMod(state >>> 33, (long) many);
        }

        /** From least to most; now and then one beyond. */
        int near(int least, int most) {
            int side = below(24);
            return side == 0 ? least - 1 : side == 1 ? most + 1 : least + below(most - least + 1);
        }

        int model() {
            return near(0, 3);
        }

        /** The kind bends what comes often: 0 anything, 1 few signs again and again, 2 wide signs, 3 what is kept. */
        Call call(int kind) {
            switch (below(kind == 3 ? 30 : 26)) {
                case 0: return below(6) == 0 ? new Call("signs", near(2, 6)) : say(kind);
                case 1:
                case 2: return new Call("weight", near(0, 5), below(3) == 0 ? 30 : near(1, 30));
                case 3: return new Call("growth", near(1, 8), below(2) == 0 ? 20 : near(20, 200));
                case 4: return new Call("back", near(0, 2), near(0, 8));
                case 5:
                case 6:
                case 7: return say(kind);
                case 8: return new Call("rub", below(3) == 0 ? below(20) : near(0, 5));
                case 9: return below(3) == 0 ? new Call("take", near(0, 3), model(), near(0, 16)) : say(kind);
                case 10: return below(4) == 0 ? new Call("learn") : new Call("saving");
                case 11: return new Call("keep", model());
                case 12: return new Call("turn", near(0, 3), near(0, 30));
                case 13: return below(9) == 0 ? new Call("burn") : new Call("typed");
                case 14: return below(2) == 0 ? new Call("blank") : new Call("knock");
                case 15: return below(2) == 0 ? new Call("house", near(0, 9)) : new Call("weightOf", near(0, 5));
                case 16: return new Call("steps", model());
                case 17: return new Call("ofStep", model(), near(0, 24), near(0, 7));
                case 18: return new Call("next", model(), near(0, 6));
                case 19: return below(2) == 0 ? new Call("bits", model()) : new Call("cost", model());
                case 20: return new Call("bound", model(), below(2));
                case 21: return new Call("least", model(), below(2));
                case 22: return new Call("turned", model(), near(0, 30));
                case 23: return new Call("extreme", model(), near(0, 4), below(2));
                case 24: return new Call("allCosts", model(), near(0, 4));
                case 25: return below(2) == 0 ? new Call("blocks") : new Call("blockCost");
                case 26: return new Call("bitsOf", near(0, 4));
                case 27: return new Call("turn", near(0, 4), near(0, 30));
                default: return new Call("read", near(0, 4), model(), near(0, 16));
            }
        }

        private Call say(int kind) {
            int[] signs = new int[6];
            for (int n = 0; n < 6; n++) {
                signs[n] = below(3) == 0 ? -1 : kind == 1 ? below(2) : kind == 2 ? 2 - below(2) : below(3);
            }
            if (below(5) == 0) {
                signs[below(6)] = near(-1, 5);
            }
            return new Call("say", signs);
        }
    }

    /** A call by its name and its numbers; a boolean counts 1 or 0. */
    private static final class Call {
        private final String name;
        private final int[] n;

        Call(String name, int... numbers) {
            this.name = name;
            this.n = numbers;
        }

        @Override
        public String toString() {
            return name + Arrays.toString(n);
        }

        Object on(Rangecodermill x) {
            try {
                return answer(x);
            } catch (RuntimeException e) {
                return e.getClass();
            }
        }

        private Object answer(Rangecodermill x) {
            switch (name) {
                case "signs": return x.signs(n[0]);
                case "weight": return x.weight(n[0], n[1]);
                case "growth": return x.growth(n[0], n[1]);
                case "back": return x.back(n[0], n[1]);
                case "say": return x.say(n[0], n[1], n[2], n[3], n[4], n[5]);
                case "rub": return x.rub(n[0]);
                case "take": return x.take(n[0], n[1], n[2]);
                case "learn": return x.learn();
                case "keep": return x.keep(n[0]);
                case "turn": return x.turn(n[0], n[1]);
                case "burn": return x.burn();
                case "blank": return x.blank();
                case "knock": return x.knock();
                case "typed": return x.typed();
                case "house": return x.house(n[0]);
                case "weightOf": return x.weightOf(n[0]);
                case "steps": return x.steps(n[0]);
                case "ofStep": return x.ofStep(n[0], n[1], n[2]);
                case "next": return x.next(n[0], n[1]);
                case "bits": return x.bits(n[0]);
                case "cost": return x.cost(n[0]);
                case "bound": return x.bound(n[0], n[1] == 1);
                case "least": return x.least(n[0], n[1] == 1);
                case "bitsOf": return x.bitsOf(n[0]);
                case "read": return x.read(n[0], n[1], n[2]);
                case "turned": return x.turned(n[0], n[1]);
                case "extreme": return x.extreme(n[0], n[1], n[2] == 1);
                case "allCosts": return x.allCosts(n[0], n[1]);
                case "blocks": return x.blocks();
                case "blockCost": return x.blockCost();
                case "saving": return x.saving();
                case "isSound": return x.isSound();
                case "digest": return x.digest();
                default: throw new AssertionError(name);
            }
        }

        Object on(Oracle x) {
            try {
                return x.answer(name, n);
            } catch (Refusal e) {
                return e.due;
            }
        }
    }

    private static final class Refusal extends RuntimeException {
        private static final long serialVersionUID = 1;
        private final transient Class<?> due;

        Refusal(Class<?> due) {
            this.due = due;
        }
    }

    private static void index(boolean isFine) {
        if (!isFine) {
            throw new Refusal(IndexOutOfBoundsException.class);
        }
    }

    private static void argument(boolean isFine) {
        if (!isFine) {
            throw new Refusal(IllegalArgumentException.class);
        }
    }

    private static void state(boolean isFine) {
        if (!isFine) {
            throw new Refusal(IllegalStateException.class);
        }
    }

    private static boolean within(int number, int least, int most) {
        return number >= least && number <= most;
    }

    /** One MENU with the CHOICE that is taken of it: choice, ahead, part, whole. */
    private static final class Step {
        private final int choice;
        private final int ahead;
        private final int part;
        private final int whole;

        Step(int[] menu, int choice) {
            this.choice = choice;
            this.ahead = Arrays.stream(menu, 0, choice).sum();
            this.part = menu[choice];
            this.whole = Arrays.stream(menu).sum();
        }
    }

    /** The document's words, with big numbers and texts made anew for everything. */
    private static final class Oracle {
        private int signs = 3;
        private int[] weights = {1, 1, 1};
        private int growth = 1;
        private int limit = 100;
        private int back = 1;
        private int share = 4;
        private String typed = "";
        private final List<String> kept = new ArrayList<>();
        private int missed = 0;
        private int knocked = 0;

        Object answer(String name, int[] n) {
            switch (name) {
                case "signs": {
                    argument(within(n[0], 2, 6));
                    int before = signs;
                    signs = n[0];
                    weights = ones();
                    typed = "";
                    return before;
                }
                case "weight": {
                    index(within(n[0], 0, signs - 1));
                    argument(within(n[1], 1, 30));
                    int before = weights[n[0]];
                    weights[n[0]] = n[1];
                    return before;
                }
                case "growth": {
                    argument(within(n[0], 1, 8) && within(n[1], 20, 200));
                    int before = 1000 * growth + limit;
                    growth = n[0];
                    limit = n[1];
                    return before;
                }
                case "back": {
                    argument(within(n[0], 0, 2) && within(n[1], 0, 8));
                    int before = 10 * back + share;
                    back = n[0];
                    share = n[1];
                    return before;
                }
                case "say": {
                    String more = "";
                    for (int sign : n) {
                        index(within(sign, -1, signs - 1));
                        more += sign == -1 ? "" : letter(sign);
                    }
                    state(typed.length() + more.length() <= 16);
                    typed += more;
                    return typed.length();
                }
                case "rub":
                    argument(n[0] >= 0);
                    typed = typed.substring(0, Math.max(0, typed.length() - n[0]));
                    return typed.length();
                case "take": {
                    String read = (String) answer("read", n);
                    int unlike = 0;
                    for (int i = 0; i < 16; i++) {
                        String old = i < typed.length() ? typed.substring(i, i + 1) : "";
                        String now = i < read.length() ? read.substring(i, i + 1) : "";
                        unlike += old.equals(now) ? 0 : 1;
                    }
                    typed = read;
                    return unlike;
                }
                case "learn": {
                    int[] learned = learned();
                    int changed = 0;
                    for (int s = 0; s < signs; s++) {
                        changed += learned[s] == weights[s] ? 0 : 1;
                    }
                    weights = learned;
                    return changed;
                }
                case "keep":
                    argument(within(n[0], 0, 3));
                    state(kept.size() < 8);
                    kept.add(bits(typed, n[0]));
                    return kept.size() - 1;
                case "turn": {
                    index(within(n[0], 0, kept.size() - 1));
                    argument(n[1] >= 0);
                    String bits = kept.get(n[0]);
                    if (n[1] >= bits.length()) {
                        missed++;
                        return -9;
                    }
                    kept.set(n[0], withTurned(bits, n[1]));
                    return kept.get(n[0]).charAt(n[1]) - '0';
                }
                case "burn": {
                    int many = kept.size();
                    kept.clear();
                    return many;
                }
                case "blank":
                    missed++;
                    return -9;
                case "knock":
                    return ++knocked;
                case "typed":
                    return typed;
                case "house":
                    argument(within(n[0], 0, 9));
                    return new int[] {signs, typed.length(), growth, limit, back, share,
                        Arrays.stream(weights).sum(), kept.size(), missed, knocked}[n[0]];
                case "weightOf":
                    index(within(n[0], 0, signs - 1));
                    return weights[n[0]];
                case "steps":
                    argument(within(n[0], 0, 3));
                    return stepsOf(typed, n[0], weights).size();
                case "ofStep": {
                    argument(within(n[0], 0, 3) && n[1] >= 0 && within(n[2], 0, 7));
                    List<Step> steps = stepsOf(typed, n[0], weights);
                    return n[1] >= steps.size() ? -1 : facts(steps.subList(0, n[1] + 1))[n[2]];
                }
                case "next":
                    argument(within(n[0], 0, 3) && within(n[1], 0, signs));
                    return new Teller(n[0], typed, weights).menu()[n[1]];
                case "bits":
                    argument(within(n[0], 0, 3));
                    return bits(typed, n[0]);
                case "cost":
                    argument(within(n[0], 0, 3));
                    return bits(typed, n[0]).length();
                case "bound":
                    argument(within(n[0], 0, 3));
                    return bound(n[0], n[1] == 1);
                case "least":
                    argument(within(n[0], 0, 3));
                    return n[1] == 1 ? exactBits(n[0]) : least(n[0]);
                case "bitsOf":
                    index(within(n[0], 0, kept.size() - 1));
                    return kept.get(n[0]);
                case "read":
                    index(within(n[0], 0, kept.size() - 1));
                    argument(within(n[1], 0, 3) && within(n[2], 0, 16));
                    return read(kept.get(n[0]), n[1], n[2]);
                case "turned": {
                    argument(within(n[0], 0, 3) && n[1] >= 0);
                    String bits = bits(typed, n[0]);
                    return n[1] >= bits.length() ? "!" : read(withTurned(bits, n[1]), n[0], typed.length());
                }
                case "extreme": {
                    String best = null;
                    for (String text : texts(n[0], n[1])) {
                        int cost = bits(text, n[0]).length();
                        int known = best == null ? cost : bits(best, n[0]).length();
                        if (best == null || (n[2] == 1 ? cost > known : cost < known)) {
                            best = text;
                        }
                    }
                    return best;
                }
                case "allCosts":
                    return texts(n[0], n[1]).stream().mapToInt(text -> bits(text, n[0]).length()).sum();
                case "blocks":
                    return bestBlocks()[0];
                case "blockCost":
                    return Integer.valueOf(bestBlocks()[1]);
                case "saving":
                    return bitsOfSteps(stepsOf(typed, 0, ones())).length()
                        - bitsOfSteps(stepsOf(typed, 0, learned())).length() - 5 * signs;
                case "isSound":
                    return isSound();
                case "digest":
                    return digest();
                default:
                    throw new AssertionError(name);
            }
        }

        private static String letter(int sign) {
            return "abcdef".substring(sign, sign + 1);
        }

        private int[] ones() {
            int[] ones = new int[signs];
            Arrays.fill(ones, 1);
            return ones;
        }

        private int[] learned() {
            int[] learned = ones();
            for (char c : typed.toCharArray()) {
                learned[c - 'a'] = Math.min(30, learned[c - 'a'] + 1);
            }
            return learned;
        }

        private static String withTurned(String bits, int bit) {
            return bits.substring(0, bit) + (bits.charAt(bit) == '0' ? "1" : "0") + bits.substring(bit + 1);
        }

        /** Where a MODEL stands: the text so far, the ORDER and what is LEFT OUT. Counts are made anew each time. */
        private final class Teller {
            private final int model;
            private final int[] known;
            private String past = "";
            private int order = 0;
            private String leftOut = "";

            Teller(int model, String past, int[] weights) {
                this.model = model;
                this.known = weights;
                for (char c : past.toCharArray()) {
                    told(c - 'a');
                }
                openPlace();
            }

            private void openPlace() {
                order = Math.min(back, past.length());
                leftOut = "";
            }

            private void told(int sign) {
                past += letter(sign);
                openPlace();
            }

            int[] counts() {
                int[] counts = known.clone();
                halve(counts);
                for (char c : past.toCharArray()) {
                    counts[c - 'a'] += growth;
                    halve(counts);
                }
                return counts;
            }

            private void halve(int[] counts) {
                while (Arrays.stream(counts).sum() > limit) {
                    for (int s = 0; s < counts.length; s++) {
                        counts[s] = (counts[s] + 1) / 2;
                    }
                }
            }

            int[] followers(int n) {
                int[] followers = new int[signs];
                String ahead = past.substring(past.length() - n);
                for (int s = 0; s < signs; s++) {
                    if (leftOut.contains(letter(s))) {
                        continue;
                    }
                    String sought = ahead + letter(s);
                    for (int at = past.indexOf(sought); at >= 0; at = past.indexOf(sought, at + 1)) {
                        followers[s]++;
                    }
                }
                return followers;
            }

            /** PARTS by CHOICE, the ESCAPE last; 0 for what is not in the MENU. */
            int[] menu() {
                int[] menu = new int[signs + 1];
                switch (model) {
                    case 0:
                        System.arraycopy(known, 0, menu, 0, signs);
                        return menu;
                    case 1:
                        System.arraycopy(counts(), 0, menu, 0, signs);
                        return menu;
                    case 3:
                        for (int s = 0; s < signs; s++) {
                            menu[s] = 1 + share * 16 * known[s] / Arrays.stream(known).sum()
                                + (8 - share) * 16 * counts()[s] / Arrays.stream(counts()).sum();
                        }
                        return menu;
                    default:
                        return contextMenu(menu);
                }
            }

            private int[] contextMenu(int[] menu) {
                while (order >= 0 && Arrays.stream(followers(order)).sum() == 0) {
                    order--;
                }
                if (order < 0) {
                    for (int s = 0; s < signs; s++) {
                        menu[s] = leftOut.contains(letter(s)) ? 0 : 1;
                    }
                    return menu;
                }
                int[] followers = followers(order);
                int unlike = 0;
                boolean isOneMore = false;
                for (int s = 0; s < signs; s++) {
                    menu[s] = followers[s];
                    unlike += followers[s] > 0 ? 1 : 0;
                    isOneMore |= followers[s] == 0 && !leftOut.contains(letter(s));
                }
                menu[signs] = isOneMore ? unlike : 0;
                return menu;
            }

            void take(int choice) {
                if (choice < signs) {
                    told(choice);
                    return;
                }
                int[] followers = followers(order);
                for (int s = 0; s < signs; s++) {
                    leftOut += followers[s] > 0 ? letter(s) : "";
                }
                order--;
            }
        }

        private List<Step> stepsOf(String text, int model, int[] weights) {
            List<Step> steps = new ArrayList<>();
            Teller teller = new Teller(model, "", weights);
            for (char c : text.toCharArray()) {
                int[] menu = teller.menu();
                while (menu[c - 'a'] == 0) {
                    steps.add(new Step(menu, signs));
                    teller.take(signs);
                    menu = teller.menu();
                }
                steps.add(new Step(menu, c - 'a'));
                teller.take(c - 'a');
            }
            return steps;
        }

        /** What ofStep() tells of the last one of these STEPS, and behind it the BYTES. */
        private int[] facts(List<Step> steps) {
            int low = 0;
            int range = 65536;
            int changed = 0;
            List<Integer> bytes = new ArrayList<>();
            for (Step step : steps) {
                int unit = range / step.whole;
                low += unit * step.ahead;
                range = unit * step.part;
                changed = 0;
                if (low >= 65536) {
                    low -= 65536;
                    int at = bytes.size() - 1;
                    while (bytes.get(at) == 255) {
                        bytes.set(at, 0);
                        changed++;
                        at--;
                    }
                    bytes.set(at, bytes.get(at) + 1);
                    changed++;
                }
                while (range < 256) {
                    bytes.add(low / 256);
                    low = low % 256 * 256;
                    range *= 256;
                }
            }
            Step last = steps.get(steps.size() - 1);
            int[] facts = new int[8 + bytes.size()];
            int[] first = {last.choice, last.ahead, last.part, last.whole, low, range, bytes.size(), changed};
            System.arraycopy(first, 0, facts, 0, 8);
            for (int n = 0; n < bytes.size(); n++) {
                facts[8 + n] = bytes.get(n);
            }
            return facts;
        }

        private String bits(String text, int model) {
            return bitsOfSteps(stepsOf(text, model, weights));
        }

        private String bitsOfSteps(List<Step> steps) {
            if (steps.isEmpty()) {
                return "";
            }
            int[] facts = facts(steps);
            int low = facts[4];
            int range = facts[5];
            for (int k = 16; k >= 0; k--) {
                int size = 1 << k;
                for (int x = 0; x + size <= low + range; x += size) {
                    if (x >= low) {
                        // the BYTES and x as one number: a CARRY goes by itself
                        BigInteger number = BigInteger.ZERO;
                        for (int n = 8; n < facts.length; n++) {
                            number = number.shiftLeft(8).add(BigInteger.valueOf(facts[n]));
                        }
                        number = number.shiftLeft(16).add(BigInteger.valueOf(x)).shiftRight(k);
                        int many = 8 * (facts.length - 8) + 16 - k;
                        StringBuilder bits = new StringBuilder(many == 0 ? "" : number.toString(2));
                        while (bits.length() < many) {
                            bits.insert(0, '0');
                        }
                        return bits.toString();
                    }
                }
            }
            throw new AssertionError("no room");
        }

        private String read(String bits, int model, int length) {
            String left = bits + "0".repeat(1000);
            Teller teller = new Teller(model, "", weights);
            BigInteger low = BigInteger.ZERO;
            BigInteger code = new BigInteger(left.substring(0, 16), 2);
            left = left.substring(16);
            int range = 65536;
            while (teller.past.length() < length) {
                int[] menu = teller.menu();
                int whole = Arrays.stream(menu).sum();
                int unit = range / whole;
                BigInteger hit = code.subtract(low).divide(BigInteger.valueOf(unit)).min(BigInteger.valueOf(whole - 1));
                int taken = -1;
                for (int c = 0; c <= signs; c++) {
                    if (menu[c] > 0 && new Step(menu, c).ahead <= hit.intValueExact()) {
                        taken = c;
                    }
                }
                Step step = new Step(menu, taken);
                low = low.add(BigInteger.valueOf((long) unit * step.ahead));
                range = unit * step.part;
                while (range < 256) {
                    low = low.shiftLeft(8);
                    code = code.shiftLeft(8).add(new BigInteger(left.substring(0, 8), 2));
                    left = left.substring(8);
                    range *= 256;
                }
                teller.take(taken);
            }
            return teller.past;
        }

        /** Lower bound, distance and their bottom. */
        private BigInteger[] exact(int model) {
            BigInteger lower = BigInteger.ZERO;
            BigInteger distance = BigInteger.ONE;
            BigInteger bottom = BigInteger.ONE;
            for (Step step : stepsOf(typed, model, weights)) {
                BigInteger whole = BigInteger.valueOf(step.whole);
                lower = lower.multiply(whole).add(distance.multiply(BigInteger.valueOf(step.ahead)));
                distance = distance.multiply(BigInteger.valueOf(step.part));
                bottom = bottom.multiply(whole);
            }
            return new BigInteger[] {lower, distance, bottom};
        }

        private String bound(int model, boolean isUpper) {
            BigInteger[] exact = exact(model);
            BigInteger top = isUpper ? exact[0].add(exact[1]) : exact[0];
            BigInteger shared = top.gcd(exact[2]);
            BigInteger bottom = exact[2].divide(shared);
            return top.divide(shared) + (bottom.equals(BigInteger.ONE) ? "" : "/" + bottom);
        }

        private int least(int model) {
            BigInteger[] exact = exact(model);
            int n = 0;
            while (exact[1].shiftLeft(n).compareTo(exact[2]) < 0) {
                n++;
            }
            return n;
        }

        private int exactBits(int model) {
            BigInteger[] exact = exact(model);
            for (int n = 0;; n++) {
                BigInteger[] parts = exact[0].shiftLeft(n).divideAndRemainder(exact[2]);
                BigInteger m = parts[0].add(parts[1].signum() == 0 ? BigInteger.ZERO : BigInteger.ONE);
                BigInteger upper = exact[0].add(exact[1]).shiftLeft(n);
                if (m.add(BigInteger.ONE).multiply(exact[2]).compareTo(upper) <= 0) {
                    return n;
                }
            }
        }

        private List<String> texts(int model, int length) {
            argument(within(model, 0, 3) && within(length, 0, 4) && Math.pow(signs, length) <= 100);
            List<String> texts = new ArrayList<>(List.of(""));
            for (int n = 0; n < length; n++) {
                List<String> longer = new ArrayList<>();
                for (String text : texts) {
                    for (int s = 0; s < signs; s++) {
                        longer.add(text + letter(s));
                    }
                }
                texts = longer;
            }
            return texts;
        }

        /** Tries all ways to part TYPED, those with a longer first piece first; a MODEL each by itself. */
        private String[] bestBlocks() {
            int length = typed.length();
            int[][] costs = new int[length][length + 1];
            int[][] models = new int[length][length + 1];
            for (int from = 0; from < length; from++) {
                for (int to = from + 1; to <= length; to++) {
                    costs[from][to] = Integer.MAX_VALUE;
                    for (int m = 0; m < 4; m++) {
                        int cost = bits(typed.substring(from, to), m).length() + 2;
                        if (cost < costs[from][to]) {
                            costs[from][to] = cost;
                            models[from][to] = m;
                        }
                    }
                }
            }
            int best = length == 0 ? 0 : Integer.MAX_VALUE;
            String told = "";
            // a set bit parts behind a sign; the first sign has the greatest bit, so longer first pieces come first
            for (int parted = 0; length > 0 && parted < 1 << (length - 1); parted++) {
                int sum = 0;
                int from = 0;
                StringBuilder text = new StringBuilder();
                for (int to = 1; to <= length; to++) {
                    if (to == length || (parted >> (length - 1 - to) & 1) == 1) {
                        sum += costs[from][to];
                        text.append(from > 0 ? " " : "").append(to - from).append(':').append(models[from][to]);
                        from = to;
                    }
                }
                if (sum < best) {
                    best = sum;
                    told = text.toString();
                }
            }
            return new String[] {told, String.valueOf(best)};
        }

        private boolean isSound() {
            boolean isSound = true;
            for (int m = 0; m < 4; m++) {
                String bits = bits(typed, m);
                isSound &= read(bits, m, typed.length()).equals(typed);
                isSound &= read(bits + "1", m, typed.length()).equals(typed);
                isSound &= exactBits(m) >= least(m) && exactBits(m) <= least(m) + 2;
                isSound &= typed.isEmpty() || Integer.parseInt(bestBlocks()[1]) <= bits.length() + 2;
            }
            return isSound;
        }

        private long digest() {
            List<Long> numbers = new ArrayList<>();
            for (int what = 0; what < 10; what++) {
                numbers.add(number("house", what));
            }
            for (int s = 0; s < signs; s++) {
                numbers.add(number("weightOf", s));
            }
            for (char c : typed.toCharArray()) {
                numbers.add((long) (c - 'a'));
            }
            for (int m = 0; m < 4; m++) {
                numbers.add(number("steps", m));
                numbers.add(number("cost", m));
                addBits(numbers, bits(typed, m));
                numbers.add(number("least", m, 0));
                numbers.add(number("least", m, 1));
                numbers.add((long) bound(m, false).length());
                numbers.add((long) bound(m, true).length());
                for (int what = 0; what < 8; what++) {
                    int last = stepsOf(typed, m, weights).size() - 1;
                    numbers.add(last < 0 ? -1L : number("ofStep", m, last, what));
                }
                for (int choice = 0; choice <= signs; choice++) {
                    numbers.add(number("next", m, choice));
                }
            }
            for (String bits : kept) {
                numbers.add((long) bits.length());
                addBits(numbers, bits);
            }
            numbers.add(number("blockCost"));
            numbers.add((long) bestBlocks()[0].length());
            numbers.add(number("saving"));
            numbers.add(isSound() ? 1L : 0L);
            long d = 9161;
            for (long v : numbers) {
                d = d * 31 + v;
            }
            return d;
        }

        private long number(String name, int... n) {
            return (Integer) answer(name, n);
        }

        private static void addBits(List<Long> numbers, String bits) {
            for (char c : bits.toCharArray()) {
                numbers.add((long) (c - '0'));
            }
        }
    }
}
