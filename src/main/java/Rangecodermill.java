/**
 * A mill that makes of a text one number between two bounds, by whatever model tells the chances of its signs.
 * What every call does is told in DOC.md, as numbered promises; its words are written here as there.
 */
public final class Rangecodermill {
    private static final int NONE = -1;
    private static final int MISSED = -9;
    private static final int FEWEST_SIGNS = 2;
    private static final int MOST_SIGNS = 6;
    private static final int MOST_WEIGHT = 30;
    private static final int MOST_GROWTH = 8;
    private static final int LEAST_LIMIT = 20;
    private static final int MOST_LIMIT = 200;
    private static final int MOST_BACK = 2;
    private static final int SHARES = 8;
    private static final int LONGEST = 16;
    private static final int LONGEST_TRIED = 4;
    private static final int MOST_TRIED = 100;
    private static final int MODELS = 4;
    private static final int MOST_KEPT = 8;
    private static final int BLOCK_FEE = 2;
    private static final int SIGN_FEE = 5;
    private static final int MOST_MORE_BITS = 2;
    private static final int WORD = 65536;
    private static final int BYTE = 256;
    /** A SIGN takes a MENU for each ORDER from BACK down to -1 at most. */
    private static final int MOST_MENUS = MOST_BACK + 2;
    private static final int MOST_STEPS = LONGEST * MOST_MENUS;
    /** A STEP brings one BYTE at most; 16 BITS may follow, and one more that isSound() puts behind them. */
    private static final int MOST_BITS = 8 * MOST_STEPS + 17;
    /** More than any sum of COSTS. */
    private static final int FAR = 1000000;

    private final Told told;
    private final Told tried;
    private final Model trying;
    private final Model[] models;
    private final Row typed;
    private final Row text;
    private final Row[] kept;
    private final Row spare;
    private final Menu menu;
    private final Trail trail;
    private final Mill mill;
    private final Exact exact;
    private final Row blockSums;
    private final Row blockLengths;
    private final Row blockModels;
    private int keptCount;
    private int missed;
    private int knocked;

    public Rangecodermill() {
        told = new Told();
        tried = new Told();
        trying = new Model(tried);
        models = new Model[MODELS];
        models[0] = new Model(told);
        models[1] = new Counted(told);
        models[2] = new Context(told);
        models[3] = new Mixed(told);
        typed = new Row(LONGEST);
        text = new Row(LONGEST);
        kept = new Row[MOST_KEPT];
        for (int n = 0; n < kept.length; n++) {
            kept[n] = new Row(MOST_BITS);
        }
        spare = new Row(MOST_BITS);
        menu = new Menu();
        trail = new Trail();
        mill = new Mill();
        exact = new Exact();
        blockSums = new Row(LONGEST + 1);
        blockLengths = new Row(LONGEST + 1);
        blockModels = new Row(LONGEST + 1);
    }

    // ---- what is told

    public int signs(int many) throws IllegalArgumentException {
        if (many < FEWEST_SIGNS || many > MOST_SIGNS) {
            throw new IllegalArgumentException("there are 2 to 6 signs");
        }
        int before = told.signs;
        told.restart(many);
        typed.clear();
        return before;
    }

    public int weight(int sign, int weight) throws IndexOutOfBoundsException, IllegalArgumentException {
        if (!isSign(sign)) {
            throw new IndexOutOfBoundsException("no such sign");
        }
        if (weight < 1 || weight > MOST_WEIGHT) {
            throw new IllegalArgumentException("a weight is 1 to 30");
        }
        int before = told.weights.at(sign);
        told.weights.put(sign, weight);
        return before;
    }

    public int growth(int growth, int limit) throws IllegalArgumentException {
        if (growth < 1 || growth > MOST_GROWTH || limit < LEAST_LIMIT || limit > MOST_LIMIT) {
            throw new IllegalArgumentException("growth is 1 to 8, limit 20 to 200");
        }
        int before = 1000 * told.growth + told.limit;
        told.growth = growth;
        told.limit = limit;
        return before;
    }

    public int back(int back, int share) throws IllegalArgumentException {
        if (back < 0 || back > MOST_BACK || share < 0 || share > SHARES) {
            throw new IllegalArgumentException("back is 0 to 2, share 0 to 8");
        }
        int before = 10 * told.back + told.share;
        told.back = back;
        told.share = share;
        return before;
    }

    public int say(int a, int b, int c, int d, int e, int f) throws IndexOutOfBoundsException, IllegalStateException {
        if (!isSignOrNone(a) || !isSignOrNone(b) || !isSignOrNone(c)
                || !isSignOrNone(d) || !isSignOrNone(e) || !isSignOrNone(f)) {
            throw new IndexOutOfBoundsException("no such sign");
        }
        int more = typedBy(a) + typedBy(b) + typedBy(c) + typedBy(d) + typedBy(e) + typedBy(f);
        if (typed.size() + more > LONGEST) {
            throw new IllegalStateException("at most 16 signs are typed");
        }
        type(a);
        type(b);
        type(c);
        type(d);
        type(e);
        type(f);
        return typed.size();
    }

    public int rub(int many) throws IllegalArgumentException {
        if (many < 0) {
            throw new IllegalArgumentException("no fewer than none are rubbed off");
        }
        typed.cut(typed.size() - Math.min(many, typed.size()));
        return typed.size();
    }

    public int take(int kept, int model, int length) throws IndexOutOfBoundsException, IllegalArgumentException {
        if (!isKept(kept)) {
            throw new IndexOutOfBoundsException("nothing is kept with that number");
        }
        if (!isModel(model) || length < 0 || length > LONGEST) {
            throw new IllegalArgumentException("models are 0 to 3, lengths 0 to 16");
        }
        mill.readInto(text, bitsKept(kept), modelOf(model), length);
        int unlike = typed.unlike(text);
        typed.copy(text);
        return unlike;
    }

    public int learn() {
        int changed = 0;
        for (int s = 0; s < told.signs; s++) {
            int learned = learnedWeight(s);
            if (learned != told.weights.at(s)) {
                changed++;
            }
            told.weights.put(s, learned);
        }
        return changed;
    }

    public int keep(int model) throws IllegalArgumentException, IllegalStateException {
        if (!isModel(model)) {
            throw new IllegalArgumentException("models are 0 to 3");
        }
        if (keptCount >= MOST_KEPT) {
            throw new IllegalStateException("at most 8 are kept");
        }
        millText(modelOf(model), typed);
        keptCount++;
        mill.writeBits(bitsKept(keptCount - 1));
        return keptCount - 1;
    }

    public int turn(int kept, int bit) throws IndexOutOfBoundsException, IllegalArgumentException {
        if (!isKept(kept)) {
            throw new IndexOutOfBoundsException("nothing is kept with that number");
        }
        if (bit < 0) {
            throw new IllegalArgumentException("bits are numbered from 0 on");
        }
        Row bits = bitsKept(kept);
        if (bit >= bits.size()) {
            missed++;
            return MISSED;
        }
        bits.put(bit, 1 - bits.at(bit));
        return bits.at(bit);
    }

    public int burn() {
        int burnt = keptCount;
        keptCount = 0;
        return burnt;
    }

    public int blank() {
        missed++;
        return MISSED;
    }

    public int knock() {
        knocked++;
        return knocked;
    }

    // ---- what is asked of texts and steps

    public String typed() {
        return typed.written('a');
    }

    public int house(int what) throws IllegalArgumentException {
        switch (what) {
            case 0: return told.signs;
            case 1: return typed.size();
            case 2: return told.growth;
            case 3: return told.limit;
            case 4: return told.back;
            case 5: return told.share;
            case 6: return told.weights.sum();
            case 7: return keptCount;
            case 8: return missed;
            case 9: return knocked;
            default: throw new IllegalArgumentException("what is asked is 0 to 9");
        }
    }

    public int weightOf(int sign) throws IndexOutOfBoundsException {
        if (!isSign(sign)) {
            throw new IndexOutOfBoundsException("no such sign");
        }
        return told.weights.at(sign);
    }

    public int steps(int model) throws IllegalArgumentException {
        if (!isModel(model)) {
            throw new IllegalArgumentException("models are 0 to 3");
        }
        millText(modelOf(model), typed);
        return trail.size();
    }

    public int ofStep(int model, int nth, int what) throws IllegalArgumentException {
        if (!isModel(model) || nth < 0 || what < 0 || what > 7) {
            throw new IllegalArgumentException("models are 0 to 3, steps from 0 on, what is asked 0 to 7");
        }
        millText(modelOf(model), typed);
        if (nth >= trail.size()) {
            return NONE;
        }
        mill.begin();
        mill.grind(trail, 0, nth + 1);
        return factOf(nth, what);
    }

    public int next(int model, int choice) throws IllegalArgumentException {
        if (!isModel(model) || choice < 0 || choice > told.signs) {
            throw new IllegalArgumentException("models are 0 to 3, choices 0 to how many signs there are");
        }
        millText(modelOf(model), typed);
        modelOf(model).offer(menu);
        return menu.part(choice);
    }

    // ---- what is asked of bits and bounds

    public String bits(int model) throws IllegalArgumentException {
        if (!isModel(model)) {
            throw new IllegalArgumentException("models are 0 to 3");
        }
        millText(modelOf(model), typed);
        mill.writeBits(spare);
        return spare.written('0');
    }

    public int cost(int model) throws IllegalArgumentException {
        if (!isModel(model)) {
            throw new IllegalArgumentException("models are 0 to 3");
        }
        millText(modelOf(model), typed);
        return mill.bitCount();
    }

    public String bound(int model, boolean isUpper) throws IllegalArgumentException {
        if (!isModel(model)) {
            throw new IllegalArgumentException("models are 0 to 3");
        }
        millText(modelOf(model), typed);
        exact.follow(trail);
        return exact.written(isUpper);
    }

    public int least(int model, boolean isExact) throws IllegalArgumentException {
        if (!isModel(model)) {
            throw new IllegalArgumentException("models are 0 to 3");
        }
        millText(modelOf(model), typed);
        exact.follow(trail);
        return isExact ? exact.exactBits() : exact.leastBits();
    }

    public String bitsOf(int kept) throws IndexOutOfBoundsException {
        if (!isKept(kept)) {
            throw new IndexOutOfBoundsException("nothing is kept with that number");
        }
        return bitsKept(kept).written('0');
    }

    public String read(int kept, int model, int length) throws IndexOutOfBoundsException, IllegalArgumentException {
        if (!isKept(kept)) {
            throw new IndexOutOfBoundsException("nothing is kept with that number");
        }
        if (!isModel(model) || length < 0 || length > LONGEST) {
            throw new IllegalArgumentException("models are 0 to 3, lengths 0 to 16");
        }
        mill.readInto(text, bitsKept(kept), modelOf(model), length);
        return text.written('a');
    }

    public String turned(int model, int bit) throws IllegalArgumentException {
        if (!isModel(model) || bit < 0) {
            throw new IllegalArgumentException("models are 0 to 3, bits numbered from 0 on");
        }
        millText(modelOf(model), typed);
        mill.writeBits(spare);
        if (bit >= spare.size()) {
            return "!";
        }
        spare.put(bit, 1 - spare.at(bit));
        mill.readInto(text, spare, modelOf(model), typed.size());
        return text.written('a');
    }

    // ---- what would be, blocks, what is learned

    public String extreme(int model, int length, boolean isDearest) throws IllegalArgumentException {
        if (!isModel(model) || !isTried(length)) {
            throw new IllegalArgumentException("models are 0 to 3, lengths 0 to 4, texts at most 100");
        }
        int texts = textsOf(length);
        int found = 0;
        int best = isDearest ? -1 : FAR;
        for (int n = 0; n < texts; n++) {
            int cost = costOfText(n, modelOf(model), length);
            if (isDearest ? cost > best : cost < best) {
                best = cost;
                found = n;
            }
        }
        spell(found, length);
        return text.written('a');
    }

    public int allCosts(int model, int length) throws IllegalArgumentException {
        if (!isModel(model) || !isTried(length)) {
            throw new IllegalArgumentException("models are 0 to 3, lengths 0 to 4, texts at most 100");
        }
        int texts = textsOf(length);
        int sum = 0;
        for (int n = 0; n < texts; n++) {
            sum += costOfText(n, modelOf(model), length);
        }
        return sum;
    }

    public String blocks() {
        partIntoBlocks();
        StringBuilder written = new StringBuilder();
        int start = 0;
        for (int n = 0; n < LONGEST && start < typed.size(); n++) {
            if (n > 0) {
                written.append(' ');
            }
            written.append(blockLengths.at(start));
            written.append(':');
            written.append(blockModels.at(start));
            start += blockLengths.at(start);
        }
        return written.toString();
    }

    public int blockCost() {
        partIntoBlocks();
        return blockSums.at(0);
    }

    public int saving() {
        tried.restart(told.signs);
        millText(trying, typed);
        int plain = mill.bitCount();
        for (int s = 0; s < told.signs; s++) {
            tried.weights.put(s, learnedWeight(s));
        }
        millText(trying, typed);
        return plain - mill.bitCount() - SIGN_FEE * told.signs;
    }

    public boolean isSound() {
        partIntoBlocks();
        for (int m = 0; m < MODELS; m++) {
            millText(modelOf(m), typed);
            exact.follow(trail);
            int more = exact.exactBits() - exact.leastBits();
            boolean isTight = more >= 0 && more <= MOST_MORE_BITS;
            boolean isWorthParting = typed.size() == 0 || blockSums.at(0) <= mill.bitCount() + BLOCK_FEE;
            if (!isTight || !isWorthParting || !trail.isWhole || !isReadAgain(modelOf(m)) || !mill.isLowTrue(trail)) {
                return false;
            }
        }
        return true;
    }

    public long digest() {
        long d = 9161;
        for (int what = 0; what < 10; what++) {
            d = mixed(d, house(what));
        }
        d = mixedRow(d, told.weights);
        d = mixedRow(d, typed);
        for (int m = 0; m < MODELS; m++) {
            d = mixedModel(d, modelOf(m));
        }
        for (int n = 0; n < keptCount; n++) {
            d = mixed(d, bitsKept(n).size());
            d = mixedRow(d, bitsKept(n));
        }
        partIntoBlocks();
        d = mixed(d, blockSums.at(0));
        d = mixed(d, blocksWidth());
        d = mixed(d, saving());
        return mixed(d, isSound() ? 1 : 0);
    }

    // ---- what the calls have in common

    private boolean isSign(int sign) {
        return sign >= 0 && sign < told.signs;
    }

    private boolean isSignOrNone(int sign) {
        return sign == NONE || isSign(sign);
    }

    private static boolean isModel(int model) {
        return model >= 0 && model < MODELS;
    }

    private boolean isKept(int number) {
        return number >= 0 && number < keptCount;
    }

    private Model modelOf(int model) {
        return model < 0 || model >= models.length ? trying : models[model];
    }

    private Row bitsKept(int number) {
        return number < 0 || number >= kept.length ? spare : kept[number];
    }

    private static int typedBy(int sign) {
        return sign == NONE ? 0 : 1;
    }

    private void type(int sign) {
        if (sign != NONE) {
            typed.add(sign);
        }
    }

    private int learnedWeight(int sign) {
        return Math.min(MOST_WEIGHT, 1 + typed.countOf(sign));
    }

    /** Leaves the STEPS in the trail, what became of them in the mill, and the model at the PLACE behind the text. */
    private void millText(Model model, Row signs) {
        model.begin();
        trail.begin();
        mill.begin();
        for (int place = 0; place < signs.size(); place++) {
            trail.tell(model, signs.at(place));
        }
        mill.grind(trail, 0, trail.size());
    }

    /** What the mill knows is asked as it stands: it must have milled up to that STEP, and no farther. */
    private int factOf(int nth, int what) {
        if (nth < 0 || nth >= trail.size()) {
            return NONE;
        }
        switch (what) {
            case 0: return trail.choices.at(nth);
            case 1: return trail.aheads.at(nth);
            case 2: return trail.parts.at(nth);
            case 3: return trail.wholes.at(nth);
            case 4: return mill.low;
            case 5: return mill.range;
            case 6: return mill.bytes.size();
            case 7: return mill.carried;
            default: return NONE;
        }
    }

    private boolean isTried(int length) {
        return length >= 0 && length <= LONGEST_TRIED && textsOf(length) <= MOST_TRIED;
    }

    private int textsOf(int length) {
        int texts = 1;
        for (int place = 0; place < length && place < LONGEST_TRIED; place++) {
            texts *= told.signs;
        }
        return texts;
    }

    /** Writes the nth text of that length, as in a dictionary. */
    private void spell(int nth, int length) {
        text.fill(length, 0);
        int left = nth;
        for (int place = length - 1; place >= 0 && told.signs > 0; place--) {
            text.put(place, left % told.signs);
            left /= told.signs;
        }
    }

    private int costOfText(int nth, Model model, int length) {
        spell(nth, length);
        millText(model, text);
        return mill.bitCount();
    }

    /** From the end on, as the best BLOCKS of what is behind a piece do not depend on the piece. */
    private void partIntoBlocks() {
        int length = typed.size();
        blockSums.fill(length + 1, FAR);
        blockLengths.fill(length + 1, 0);
        blockModels.fill(length + 1, 0);
        blockSums.put(length, 0);
        for (int start = length - 1; start >= 0; start--) {
            for (int m = 0; m < MODELS; m++) {
                modelOf(m).begin();
                trail.begin();
                mill.begin();
                for (int end = start; end < length; end++) {
                    int from = trail.size();
                    trail.tell(modelOf(m), typed.at(end));
                    mill.grind(trail, from, trail.size());
                    proposeBlock(start, end + 1, m);
                }
            }
        }
    }

    /** The models come by rising numbers: a later one must be better to be taken for the same piece. */
    private void proposeBlock(int start, int end, int model) {
        int sum = mill.bitCount() + BLOCK_FEE + blockSums.at(end);
        int best = blockSums.at(start);
        if (sum < best || sum == best && end - start > blockLengths.at(start)) {
            blockSums.put(start, sum);
            blockLengths.put(start, end - start);
            blockModels.put(start, model);
        }
    }

    /** How long the text of the BLOCKS is, without making it. */
    private int blocksWidth() {
        int width = 0;
        int start = 0;
        for (int n = 0; n < LONGEST && start < typed.size(); n++) {
            width += (n > 0 ? 1 : 0) + (blockLengths.at(start) > 9 ? 4 : 3);
            start += blockLengths.at(start);
        }
        return width;
    }

    /** Whether the BITS of TYPED, as the mill stands, are read as TYPED, also with "1" behind them. */
    private boolean isReadAgain(Model model) {
        mill.writeBits(spare);
        mill.readInto(text, spare, model, typed.size());
        int unlike = typed.unlike(text);
        spare.add(1);
        mill.readInto(text, spare, model, typed.size());
        return unlike + typed.unlike(text) == 0;
    }

    private static long mixed(long d, long v) {
        return d * 31 + v;
    }

    private static long mixedRow(long before, Row row) {
        long d = before;
        for (int n = 0; n < row.size(); n++) {
            d = mixed(d, row.at(n));
        }
        return d;
    }

    private long mixedModel(long before, Model model) {
        millText(model, typed);
        mill.writeBits(spare);
        exact.follow(trail);
        long d = mixed(before, trail.size());
        d = mixed(d, mill.bitCount());
        d = mixedRow(d, spare);
        d = mixed(d, exact.leastBits());
        d = mixed(d, exact.exactBits());
        d = mixed(d, exact.width(false));
        d = mixed(d, exact.width(true));
        for (int what = 0; what < 8; what++) {
            d = mixed(d, factOf(trail.size() - 1, what));
        }
        model.offer(menu);
        for (int choice = 0; choice <= told.signs; choice++) {
            d = mixed(d, menu.part(choice));
        }
        return d;
    }

    /** Numbers one behind the other. What is asked beyond their end is 0, as with BITS. */
    private static final class Row {
        private final int[] cells;
        private int count;

        Row(int most) {
            cells = new int[Math.max(0, most)];
        }

        int size() {
            return count;
        }

        int at(int place) {
            return place < 0 || place >= count || place >= cells.length ? 0 : cells[place];
        }

        void put(int place, int number) {
            if (place >= 0 && place < count && place < cells.length) {
                cells[place] = number;
            }
        }

        void add(int number) {
            if (count >= 0 && count < cells.length) {
                cells[count] = number;
                count++;
            }
        }

        void cut(int size) {
            count = Math.max(0, Math.min(size, count));
        }

        void clear() {
            count = 0;
        }

        void fill(int size, int number) {
            count = Math.max(0, Math.min(size, cells.length));
            for (int n = 0; n < count && n < cells.length; n++) {
                cells[n] = number;
            }
        }

        void copy(Row other) {
            count = Math.min(other.count, cells.length);
            for (int n = 0; n < count && n < cells.length; n++) {
                cells[n] = other.at(n);
            }
        }

        int sum() {
            int sum = 0;
            for (int n = 0; n < count && n < cells.length; n++) {
                sum += cells[n];
            }
            return sum;
        }

        int countOf(int number) {
            int times = 0;
            for (int n = 0; n < count; n++) {
                if (at(n) == number) {
                    times++;
                }
            }
            return times;
        }

        /** In how many places they differ; those that one of both has alone count, too. */
        int unlike(Row other) {
            int shared = Math.min(count, other.count);
            int unlike = Math.max(count, other.count) - shared;
            for (int n = 0; n < shared; n++) {
                if (at(n) != other.at(n)) {
                    unlike++;
                }
            }
            return unlike;
        }

        void addBits(int number, int many) {
            for (int n = many - 1; n >= 0; n--) {
                add(number >> n & 1);
            }
        }

        int bitsAt(int place, int many) {
            int number = 0;
            for (int n = 0; n < many; n++) {
                number = number * 2 + at(place + n);
            }
            return number;
        }

        /** Lets 1 run on from the last number to those ahead of it; answers how many became other. */
        int carry(int greatest) {
            int changed = 0;
            boolean runs = true;
            for (int n = count - 1; n >= 0 && runs; n--) {
                runs = at(n) >= greatest;
                put(n, runs ? 0 : at(n) + 1);
                changed++;
            }
            return changed;
        }

        String written(char first) {
            StringBuilder written = new StringBuilder();
            for (int n = 0; n < count; n++) {
                written.append((char) (first + at(n)));
            }
            return written.toString();
        }
    }

    /** What the MODELS are told. */
    private static final class Told {
        private final Row weights = new Row(MOST_SIGNS);
        private int signs = 3;
        private int growth = 1;
        private int limit = 100;
        private int back = 1;
        private int share = 4;

        Told() {
            weights.fill(signs, 1);
        }

        void restart(int many) {
            signs = many;
            weights.fill(many, 1);
        }
    }

    /** As every PART is 1 or more, a CHOICE with the part 0 is one that is not there. */
    private static final class Menu {
        private final int[] parts = new int[MOST_SIGNS + 1];
        private int escape;
        private int whole;

        void clear(int signs) {
            for (int c = 0; c < parts.length; c++) {
                parts[c] = 0;
            }
            escape = signs;
            whole = 0;
        }

        void put(int choice, int part) {
            if (choice >= 0 && choice < parts.length) {
                parts[choice] = part;
                whole += part;
            }
        }

        int part(int choice) {
            return choice < 0 || choice >= parts.length ? 0 : parts[choice];
        }

        int ahead(int choice) {
            int sum = 0;
            for (int c = 0; c < choice && c < parts.length; c++) {
                sum += parts[c];
            }
            return sum;
        }

        int choiceHit(int hit) {
            int taken = 0;
            int ahead = 0;
            for (int c = 0; c < parts.length; c++) {
                if (parts[c] > 0 && ahead <= hit) {
                    taken = c;
                }
                ahead += parts[c];
            }
            return taken;
        }
    }

    /** FIXED; the other MODELS differ from it in what they offer and in what they learn of the text. */
    private static class Model {
        final Told told;

        Model(Told told) {
            this.told = told;
        }

        /** Forgets the text: the PLACE of its first SIGN comes. */
        void begin() {
        }

        void offer(Menu menu) {
            menu.clear(told.signs);
            for (int s = 0; s < told.signs; s++) {
                menu.put(s, told.weights.at(s));
            }
        }

        /** Goes on behind a CHOICE of the MENU that was offered last. */
        void accept(int choice) {
        }
    }

    private static class Counted extends Model {
        /** Far more than it takes to bring the greatest COUNTS below the smallest LIMIT. */
        private static final int HALVINGS = 32;
        final Row counts = new Row(MOST_SIGNS);

        Counted(Told told) {
            super(told);
        }

        void begin() {
            counts.copy(told.weights);
            keepToLimit();
        }

        void offer(Menu menu) {
            menu.clear(told.signs);
            for (int s = 0; s < told.signs; s++) {
                menu.put(s, counts.at(s));
            }
        }

        void accept(int choice) {
            counts.put(choice, counts.at(choice) + told.growth);
            keepToLimit();
        }

        private void keepToLimit() {
            for (int n = 0; n < HALVINGS && counts.sum() > told.limit; n++) {
                for (int s = 0; s < told.signs; s++) {
                    counts.put(s, (counts.at(s) + 1) / 2);
                }
            }
        }
    }

    private static final class Mixed extends Counted {
        private static final int PORTION = 16;

        Mixed(Told told) {
            super(told);
        }

        void offer(Menu menu) {
            int allWeights = Math.max(1, told.weights.sum());
            int allCounts = Math.max(1, counts.sum());
            menu.clear(told.signs);
            for (int s = 0; s < told.signs; s++) {
                int ofWeight = told.share * PORTION * told.weights.at(s) / allWeights;
                int ofCount = (SHARES - told.share) * PORTION * counts.at(s) / allCounts;
                menu.put(s, 1 + ofWeight + ofCount);
            }
        }
    }

    private static final class Context extends Model {
        private final Row past = new Row(LONGEST);
        private final Row followers = new Row(MOST_SIGNS);
        private final Row leftOut = new Row(MOST_SIGNS);
        private int order;

        Context(Told told) {
            super(told);
        }

        void begin() {
            past.clear();
            openPlace();
        }

        private void openPlace() {
            order = Math.min(told.back, past.size());
            leftOut.fill(told.signs, 0);
        }

        void offer(Menu menu) {
            menu.clear(told.signs);
            int unlike = gatherFollowers();
            for (int n = 0; n <= MOST_BACK && order >= 0 && unlike == 0; n++) {
                order--;
                unlike = gatherFollowers();
            }
            if (order < 0) {
                offerRest(menu);
            } else {
                offerFollowers(menu, unlike);
            }
        }

        /** Answers how many unlike ones there are. */
        private int gatherFollowers() {
            followers.fill(told.signs, 0);
            int unlike = 0;
            for (int place = Math.max(0, order); order >= 0 && place < past.size(); place++) {
                int sign = past.at(place);
                boolean follows = leftOut.at(sign) == 0;
                for (int n = 1; n <= order; n++) {
                    follows = follows && past.at(place - n) == past.at(past.size() - n);
                }
                if (follows) {
                    unlike += followers.at(sign) == 0 ? 1 : 0;
                    followers.put(sign, followers.at(sign) + 1);
                }
            }
            return unlike;
        }

        private void offerFollowers(Menu menu, int unlike) {
            boolean isEscapable = false;
            for (int s = 0; s < told.signs; s++) {
                if (followers.at(s) > 0) {
                    menu.put(s, followers.at(s));
                } else if (leftOut.at(s) == 0) {
                    isEscapable = true;
                }
            }
            if (isEscapable) {
                menu.put(told.signs, unlike);
            }
        }

        private void offerRest(Menu menu) {
            for (int s = 0; s < told.signs; s++) {
                if (leftOut.at(s) == 0) {
                    menu.put(s, 1);
                }
            }
        }

        void accept(int choice) {
            if (choice < told.signs) {
                past.add(choice);
                openPlace();
                return;
            }
            for (int s = 0; s < told.signs; s++) {
                if (followers.at(s) > 0) {
                    leftOut.put(s, 1);
                }
            }
            order--;
        }
    }

    /** The STEPS of a text, one row for each thing that is known of them. */
    private static final class Trail {
        private final Menu menu = new Menu();
        private final Row choices = new Row(MOST_STEPS);
        private final Row aheads = new Row(MOST_STEPS);
        private final Row parts = new Row(MOST_STEPS);
        private final Row wholes = new Row(MOST_STEPS);
        private boolean isWhole;

        void begin() {
            choices.clear();
            aheads.clear();
            parts.clear();
            wholes.clear();
            isWhole = true;
        }

        int size() {
            return choices.size();
        }

        void tell(Model model, int sign) {
            boolean isTold = false;
            for (int n = 0; n < MOST_MENUS && !isTold; n++) {
                model.offer(menu);
                isTold = menu.part(sign) > 0;
                int choice = isTold ? sign : menu.escape;
                choices.add(choice);
                aheads.add(menu.ahead(choice));
                parts.add(menu.part(choice));
                wholes.add(menu.whole);
                isWhole = isWhole && menu.ahead(menu.escape + 1) == menu.whole;
                model.accept(choice);
            }
        }
    }

    private static final class Mill {
        /** More than RANGE ever is, and small enough to grow by a BYTE. */
        private static final long BEYOND = 1L << 40;
        /** RANGE is never 0: one BYTE does, but the loops have an end that can be seen. */
        private static final int MOST_BYTES = 2;
        private final Menu menu = new Menu();
        private final Row bytes = new Row(MOST_STEPS);
        private final Big wideLow = new Big();
        private final Big joined = new Big();
        private int low;
        private int range;
        private int carried;

        void begin() {
            bytes.clear();
            low = 0;
            range = WORD;
            carried = 0;
        }

        void grind(Trail trail, int from, int to) {
            for (int n = from; n < to; n++) {
                grindStep(trail.aheads.at(n), trail.parts.at(n), trail.wholes.at(n));
            }
        }

        private void grindStep(int ahead, int part, int whole) {
            int unit = unitOf(range, whole);
            low += unit * ahead;
            range = unit * part;
            carried = 0;
            if (low >= WORD) {
                low -= WORD;
                carried = bytes.carry(BYTE - 1);
            }
            for (int n = 0; n < MOST_BYTES && range < BYTE; n++) {
                bytes.add(low / BYTE);
                low = low % BYTE * BYTE;
                range *= BYTE;
            }
        }

        private static int unitOf(int range, int whole) {
            return whole < 1 ? 1 : range / whole;
        }

        /** The k of BITS. With 0 there is always room, as RANGE is 1 or more. */
        private int freeBits() {
            int free = 16;
            while (free > 0 && roundedLow(free) + (1 << free) > low + range) {
                free--;
            }
            return free;
        }

        private int roundedLow(int free) {
            return (low + (1 << free) - 1) >> free << free;
        }

        int bitCount() {
            return 8 * bytes.size() + 16 - freeBits();
        }

        void writeBits(Row bits) {
            int free = freeBits();
            int number = roundedLow(free);
            bits.clear();
            for (int n = 0; n < bytes.size(); n++) {
                bits.addBits(bytes.at(n), 8);
            }
            if (number >= WORD) {
                number -= WORD;
                // bit by bit a CARRY comes to the same as BYTE by BYTE
                bits.carry(1);
            }
            bits.addBits(number >> free, 16 - free);
        }

        /**
         * Only CODE - LOW is known here. Once it is RANGE or more, it stays so, and the last CHOICE is taken ever after:
         * how far it is beyond RANGE does not matter, and it need not grow any farther.
         */
        void readInto(Row text, Row bits, Model model, int length) {
            long gap = bits.bitsAt(0, 16);
            int room = WORD;
            int place = 16;
            text.clear();
            model.begin();
            for (int n = 0; n < MOST_STEPS && text.size() < length; n++) {
                model.offer(menu);
                int unit = Math.max(1, unitOf(room, menu.whole));
                int choice = menu.choiceHit((int) Math.min(gap / unit, menu.whole - 1));
                gap -= unit * menu.ahead(choice);
                room = unit * menu.part(choice);
                for (int more = 0; more < MOST_BYTES && room < BYTE; more++) {
                    gap = Math.min(BEYOND, gap * BYTE + bits.bitsAt(place, 8));
                    room *= BYTE;
                    place += 8;
                }
                model.accept(choice);
                if (choice < menu.escape) {
                    text.add(choice);
                }
            }
        }

        /** Mills the trail anew, beside a LOW that never is cut: BYTES and LOW must come to the same number. */
        boolean isLowTrue(Trail trail) {
            begin();
            wideLow.set(0);
            for (int n = 0; n < trail.size(); n++) {
                int known = bytes.size();
                int ahead = trail.aheads.at(n);
                int whole = trail.wholes.at(n);
                wideLow.plus(unitOf(range, whole) * ahead);
                grindStep(ahead, trail.parts.at(n), whole);
                for (int more = known; more < bytes.size(); more++) {
                    wideLow.times(BYTE);
                }
            }
            joined.set(0);
            for (int n = 0; n < bytes.size(); n++) {
                joined.times(BYTE);
                joined.plus(bytes.at(n));
            }
            joined.times(WORD);
            joined.plus(low);
            return joined.compare(wideLow) == 0;
        }
    }

    /** A whole number, 0 or more, in limbs of nine digits, the last nine ahead: so it is soon written. */
    private static final class Big {
        private static final int BASE = 1000000000;
        private static final int LIMB_WIDTH = 9;
        /** The greatest number is LOW with all of its BYTES, 8 * MOST_STEPS + 17 bits: 159 digits. */
        private static final int MOST_LIMBS = 20;
        private final Row limbs = new Row(MOST_LIMBS);

        void set(int number) {
            limbs.clear();
            plus(number);
        }

        void copy(Big other) {
            limbs.copy(other.limbs);
        }

        void plus(int number) {
            addAt(0, number);
        }

        private void addAt(int start, long number) {
            long over = number;
            for (int n = start; n < MOST_LIMBS && over > 0; n++) {
                if (n == limbs.size()) {
                    limbs.add(0);
                }
                long limb = limbs.at(n) + over;
                limbs.put(n, (int) (limb % BASE));
                over = limb / BASE;
            }
        }

        void plus(Big other) {
            for (int n = 0; n < other.limbs.size(); n++) {
                if (n == limbs.size()) {
                    limbs.add(0);
                }
                addAt(n, other.limbs.at(n));
            }
        }

        /** The other one is no greater. */
        void minus(Big other) {
            int lent = 0;
            for (int n = 0; n < limbs.size(); n++) {
                int limb = limbs.at(n) - other.limbs.at(n) - lent;
                lent = limb < 0 ? 1 : 0;
                limbs.put(n, limb + lent * BASE);
            }
            dropZeros();
        }

        void times(int factor) {
            long over = 0;
            for (int n = 0; n < limbs.size(); n++) {
                long limb = (long) limbs.at(n) * factor + over;
                limbs.put(n, (int) (limb % BASE));
                over = limb / BASE;
            }
            addAt(limbs.size(), over);
            dropZeros();
        }

        int modulo(int divisor) {
            long rest = 0;
            for (int n = limbs.size() - 1; n >= 0 && divisor > 0; n--) {
                rest = (rest * BASE + limbs.at(n)) % divisor;
            }
            return (int) rest;
        }

        void divide(int divisor) {
            long rest = 0;
            for (int n = limbs.size() - 1; n >= 0 && divisor > 0; n--) {
                long limb = rest * BASE + limbs.at(n);
                limbs.put(n, (int) (limb / divisor));
                rest = limb % divisor;
            }
            dropZeros();
        }

        private void dropZeros() {
            int size = limbs.size();
            while (size > 0 && limbs.at(size - 1) == 0) {
                size--;
            }
            limbs.cut(size);
        }

        /** Below 0, 0 or above 0, as this number is smaller, the same or greater. */
        int compare(Big other) {
            int order = limbs.size() - other.limbs.size();
            for (int n = limbs.size() - 1; n >= 0 && order == 0; n--) {
                order = limbs.at(n) - other.limbs.at(n);
            }
            return order;
        }

        boolean isOne() {
            return limbs.size() == 1 && limbs.at(0) == 1;
        }

        private static int widthOf(int number) {
            int width = 1;
            for (int left = number / 10; left > 0; left /= 10) {
                width++;
            }
            return width;
        }

        int width() {
            int last = limbs.size() - 1;
            return Math.max(0, last) * LIMB_WIDTH + widthOf(limbs.at(last));
        }

        void writeTo(StringBuilder written) {
            int last = limbs.size() - 1;
            written.append(limbs.at(last));
            for (int n = last - 1; n >= 0; n--) {
                for (int width = widthOf(limbs.at(n)); width < LIMB_WIDTH; width++) {
                    written.append('0');
                }
                written.append(limbs.at(n));
            }
        }
    }

    /** Exact bounds: the lower one and the distance stand above one bottom, which only grows. */
    private static final class Exact {
        /** As the bottom is a product of WHOLES, it has no greater prime than the greatest of them. */
        private static final int MOST_WHOLE = MOST_LIMIT;
        private static final int MOST_DOUBLINGS = 1000;
        private final Big lower = new Big();
        private final Big distance = new Big();
        private final Big bottom = new Big();
        private final Big reach = new Big();
        private final Big slack = new Big();
        private final Big wanted = new Big();
        private final Big top = new Big();
        private final Big under = new Big();

        void follow(Trail trail) {
            lower.set(0);
            distance.set(1);
            bottom.set(1);
            for (int n = 0; n < trail.size(); n++) {
                reach.copy(distance);
                reach.times(trail.aheads.at(n));
                lower.times(trail.wholes.at(n));
                lower.plus(reach);
                distance.times(trail.parts.at(n));
                bottom.times(trail.wholes.at(n));
            }
        }

        int leastBits() {
            int bits = 0;
            reach.copy(distance);
            while (bits < MOST_DOUBLINGS && reach.compare(bottom) < 0) {
                reach.times(2);
                bits++;
            }
            return bits;
        }

        /**
         * The slack is how far the least m / 2^bits that is no lower than the lower bound stands above it,
         * and reach the distance, both 2^bits times as much, above the bottom: m does as soon as
         * another 1 / 2^bits has room behind the slack. So m itself need not be known.
         */
        int exactBits() {
            int bits = 0;
            reach.copy(distance);
            slack.copy(bottom);
            slack.minus(lower);
            dropWholeFromSlack();
            while (bits < MOST_DOUBLINGS && !isRoomBehindSlack()) {
                reach.times(2);
                slack.times(2);
                dropWholeFromSlack();
                bits++;
            }
            return bits;
        }

        private void dropWholeFromSlack() {
            if (slack.compare(bottom) >= 0) {
                slack.minus(bottom);
            }
        }

        private boolean isRoomBehindSlack() {
            wanted.copy(bottom);
            wanted.plus(slack);
            return reach.compare(wanted) >= 0;
        }

        private void reduce(boolean isUpper) {
            top.copy(lower);
            if (isUpper) {
                top.plus(distance);
            }
            under.copy(bottom);
            for (int p = 2; p <= MOST_WHOLE; p++) {
                for (int n = 0; n < MOST_DOUBLINGS && under.modulo(p) == 0 && top.modulo(p) == 0; n++) {
                    under.divide(p);
                    top.divide(p);
                }
            }
        }

        String written(boolean isUpper) {
            reduce(isUpper);
            StringBuilder written = new StringBuilder();
            top.writeTo(written);
            if (!under.isOne()) {
                written.append('/');
                under.writeTo(written);
            }
            return written.toString();
        }

        int width(boolean isUpper) {
            reduce(isUpper);
            return top.width() + (under.isOne() ? 0 : 1 + under.width());
        }
    }
}
