/** A splitter of compound words: see README.md, and the promises in the project's document. */
public final class PartSplitter {
    public static final int NONE = -1;

    private static final int MOST_PARTS = 16;
    private static final int MOST_LINKS = 6;
    private static final int MOST_LEARNED = 50;
    private static final int PART_LETTERS = 4;
    private static final int LINK_LETTERS = 2;
    private static final int WORD_LETTERS = 8;
    private static final int MOST_COUNT = 9999;

    private static final int FIRST = 1;
    private static final int MIDDLE = 2;
    private static final int LAST = 4;
    private static final int ALL_FLAGS = FIRST | MIDDLE | LAST;

    /** What the second split must cost more than the first one, for a word to be sure. */
    private static final int SURE_GAP = 20;

    /** How many trees there are with so many leaves in an order. */
    private static final int[] TREES = {0, 1, 1, 2, 5, 14, 42, 132, 429};

    private final Lexicon lexicon;
    private final SplitRow row;
    private final Lessons lessons;

    public PartSplitter() {
        lexicon = new Lexicon();
        row = new SplitRow(lexicon);
        lessons = new Lessons(lexicon);
    }

    // ---- parts, links, vetoes

    public int addPart(int text, int count, int flags) throws IllegalArgumentException, IllegalStateException {
        needText(text, PART_LETTERS);
        if (count < 1 || count > MOST_COUNT) {
            throw new IllegalArgumentException("count is not 1 to 9999");
        }
        if (flags < 1 || flags > ALL_FLAGS) {
            throw new IllegalArgumentException("flags are not 1 to 7");
        }
        if (lexicon.partsUsed >= MOST_PARTS) {
            throw new IllegalStateException("there are 16 parts");
        }
        if (lexicon.partWith(text) != NONE) {
            throw new IllegalStateException("there is a part with these letters");
        }
        return lexicon.enterPart(text, count, flags);
    }

    public int setFlags(int part, int flags) throws IndexOutOfBoundsException, IllegalArgumentException {
        needPart(part);
        if (flags < 0 || flags > ALL_FLAGS) {
            throw new IllegalArgumentException("flags are not 0 to 7");
        }
        int before = lexicon.partFlags[part];
        lexicon.partFlags[part] = flags;
        return before;
    }

    public int addLink(int text) throws IllegalArgumentException, IllegalStateException {
        needText(text, LINK_LETTERS);
        if (lexicon.linksUsed >= MOST_LINKS) {
            throw new IllegalStateException("there are 6 links");
        }
        if (lexicon.linkWith(text) != NONE) {
            throw new IllegalStateException("there is a link with these letters");
        }
        return lexicon.enterLink(text);
    }

    public boolean veto(int part, int next, boolean isVeto) throws IndexOutOfBoundsException {
        needPart(part);
        needPart(next);
        int pair = part * MOST_PARTS + next;
        boolean before = lexicon.vetoes[pair];
        lexicon.vetoes[pair] = isVeto;
        return before;
    }

    public boolean bar(int part, int link, boolean isBar) throws IndexOutOfBoundsException {
        needPart(part);
        if (link < 0 || link >= lexicon.linksUsed) {
            throw new IndexOutOfBoundsException("no such link");
        }
        int pair = part * MOST_LINKS + link;
        boolean before = lexicon.bars[pair];
        lexicon.bars[pair] = isBar;
        return before;
    }

    public int parts() {
        return lexicon.partsUsed;
    }

    public int count(int part) throws IndexOutOfBoundsException {
        needPart(part);
        return lexicon.partCounts[part];
    }

    public int costOf(int part) throws IndexOutOfBoundsException {
        needPart(part);
        return Lexicon.costOfCount(lexicon.partCounts[part]);
    }

    public int find(int text) throws IllegalArgumentException {
        needText(text, WORD_LETTERS);
        return lexicon.partWith(text);
    }

    public int nodes() {
        return lexicon.partsUsed == 0 ? 0 : lexicon.tree.differentNodes();
    }

    // ---- splits

    public int splits(int word) throws IllegalArgumentException {
        needText(word, WORD_LETTERS);
        row.gather(word);
        return row.found;
    }

    public int cost(int word, int k) throws IllegalArgumentException {
        long split = splitOf(word, k);
        return split == NONE ? NONE : SplitRow.costIn(split);
    }

    public int size(int word, int k) throws IllegalArgumentException {
        long split = splitOf(word, k);
        return split == NONE ? NONE : SplitRow.placesIn(split);
    }

    public int partAt(int word, int k, int place) throws IllegalArgumentException {
        if (place < 0) {
            throw new IllegalArgumentException("place is below 0");
        }
        long split = splitOf(word, k);
        if (split == NONE || place >= SplitRow.placesIn(split)) {
            return NONE;
        }
        return 10 * row.partIn(split, place) + SplitRow.linkIn(split, place) + 1;
    }

    public int head(int word) throws IllegalArgumentException {
        long split = splitOf(word, 0);
        return split == NONE ? NONE : row.partIn(split, SplitRow.placesIn(split) - 1);
    }

    public int readings(int word) throws IllegalArgumentException {
        needText(word, WORD_LETTERS);
        row.gather(word);
        int sum = 0;
        for (int i = 0; i < row.found && i < row.keys.length; i++) {
            int places = SplitRow.placesIn(row.keys[i]);
            if (places < TREES.length) {
                sum += TREES[places];
            }
        }
        return sum;
    }

    // ---- learning

    public boolean learn(int word) throws IllegalArgumentException, IllegalStateException {
        needText(word, WORD_LETTERS);
        if (lessons.used >= MOST_LEARNED) {
            throw new IllegalStateException("50 words are learned");
        }
        row.gather(word);
        long split = row.keyAt(0);
        if (split == NONE || !isSure(split, row.keyAt(1))) {
            return false;
        }
        lessons.begin(word);
        int places = SplitRow.placesIn(split);
        for (int place = 0; place < places; place++) {
            lessons.grow(row.partIn(split, place));
        }
        return true;
    }

    public int forget() throws IllegalStateException {
        if (lessons.used <= 0) {
            throw new IllegalStateException("no word is learned");
        }
        return lessons.takeBack();
    }

    public int learned() {
        return lessons.used;
    }

    // ---- what the calls share

    private static void needText(int text, int mostLetters) {
        int letters = lettersIn(text);
        if (letters < 1 || letters > mostLetters) {
            throw new IllegalArgumentException("no text of so many letters");
        }
    }

    private void needPart(int part) {
        if (part < 0 || part >= lexicon.partsUsed) {
            throw new IndexOutOfBoundsException("no such part");
        }
    }

    /** The key of a split of a word, which stands gathered in the row afterwards; NONE if there are not so many. */
    private long splitOf(int word, int k) {
        needText(word, WORD_LETTERS);
        if (k < 0) {
            throw new IllegalArgumentException("k is below 0");
        }
        row.gather(word);
        return row.keyAt(k);
    }

    private static boolean isSure(long first, long second) {
        return second == NONE || SplitRow.costIn(second) - SplitRow.costIn(first) >= SURE_GAP;
    }

    /** How many letters a text has, 1 to 8; 0 if the number is no such text. */
    private static int lettersIn(int text) {
        int least = 10;
        for (int letters = 1; letters <= WORD_LETTERS; letters++) {
            if (text >= least && text < 2 * least) {
                return letters;
            }
            least *= 10;
        }
        return 0;
    }

    /** Parts and links, each with what is known of it, and the vetoes and bars between them. */
    private static final class Lexicon {
        private static final int COST_STEP = 10;
        private static final int TOP_OF_DOUBLING = 10000;
        private static final int MOST_DOUBLINGS = 13;

        private final int[] partTexts = new int[MOST_PARTS];
        private final int[] partCounts = new int[MOST_PARTS];
        private final int[] partFlags = new int[MOST_PARTS];
        private final int[] linkTexts = new int[MOST_LINKS];
        private final boolean[] vetoes = new boolean[MOST_PARTS * MOST_PARTS];
        private final boolean[] bars = new boolean[MOST_PARTS * MOST_LINKS];
        private final Tree tree = new Tree();
        private int partsUsed;
        private int linksUsed;

        /** Only for a text that no part has, while there is room. */
        int enterPart(int text, int count, int flags) {
            if (partsUsed >= MOST_PARTS) {
                return NONE;
            }
            int part = partsUsed;
            partTexts[part] = text;
            partCounts[part] = count;
            partFlags[part] = flags;
            tree.enter(text);
            partsUsed++;
            return part;
        }

        /** Only for a text that no link has, while there is room. */
        int enterLink(int text) {
            if (linksUsed >= MOST_LINKS) {
                return NONE;
            }
            int link = linksUsed;
            linkTexts[link] = text;
            linksUsed++;
            return link;
        }

        int partWith(int text) {
            return placeOf(text, partTexts, partsUsed);
        }

        int linkWith(int text) {
            return placeOf(text, linkTexts, linksUsed);
        }

        private static int placeOf(int text, int[] texts, int used) {
            for (int i = 0; i < used && i < texts.length; i++) {
                if (texts[i] == text) {
                    return i;
                }
            }
            return NONE;
        }

        static int costOfCount(int count) {
            int cost = COST_STEP;
            int doubled = 2 * count;
            for (int i = 0; i < MOST_DOUBLINGS && doubled <= TOP_OF_DOUBLING; i++) {
                cost += COST_STEP;
                doubled *= 2;
            }
            return cost;
        }

        /** How many letters stand between two parts; link may be NONE. */
        int lettersOfLink(int link) {
            return link < 0 || link >= linksUsed ? 0 : lettersIn(linkTexts[link]);
        }

        boolean mayStand(int part, boolean isFirst, boolean isLast) {
            int needed = (isFirst ? FIRST : 0) | (isLast ? LAST : 0);
            if (needed == 0) {
                needed = MIDDLE;
            }
            return (partFlags[part] & needed) == needed;
        }
    }

    /**
     * The texts of the parts as a tree of letters. A node is made after the node above it, so that going
     * from the last node to the first one meets what is below a node ahead of the node itself.
     */
    private static final class Tree {
        private static final int LETTERS = 10;
        private static final int ROOT = 0;
        private static final int MOST_NODES = 1 + MOST_PARTS * PART_LETTERS;

        /** What is below each node by each letter; ROOT, which is below none, means that nothing is. */
        private final int[] below = new int[MOST_NODES * LETTERS];
        private final boolean[] isEnd = new boolean[MOST_NODES];
        /** For each node the one that stands for all that can be followed by the same. */
        private final int[] twins = new int[MOST_NODES];
        private int used = 1;

        void enter(int text) {
            int unit = 1;
            for (int i = lettersIn(text); i > 1; i--) {
                unit *= 10;
            }
            int node = ROOT;
            for (; unit > 0; unit /= 10) {
                node = madeBelow(node, text / unit % LETTERS);
            }
            isEnd[node] = true;
        }

        private int madeBelow(int node, int letter) {
            int place = node * LETTERS + letter;
            if (below[place] == ROOT && used < MOST_NODES) {
                below[place] = used;
                used++;
            }
            return below[place];
        }

        /** How many nodes are left if those that can be followed by the same become one. */
        int differentNodes() {
            int different = 0;
            for (int node = used - 1; node >= 0; node--) {
                twins[node] = twinOf(node);
                if (twins[node] == node) {
                    different++;
                }
            }
            return different;
        }

        private int twinOf(int node) {
            for (int other = used - 1; other > node; other--) {
                if (twins[other] == other && isFollowedAlike(node, other)) {
                    return other;
                }
            }
            return node;
        }

        private boolean isFollowedAlike(int node, int other) {
            if (isEnd[node] != isEnd[other]) {
                return false;
            }
            for (int letter = 0; letter < LETTERS; letter++) {
                if (twinBelow(node, letter) != twinBelow(other, letter)) {
                    return false;
                }
            }
            return true;
        }

        private int twinBelow(int node, int letter) {
            int child = below[node * LETTERS + letter];
            return child == ROOT ? ROOT : twins[child];
        }
    }

    /**
     * All splits of one word. Each is one number, its key, from the highest bits: its cost, how many parts it
     * has, and for each of its places what the part lacks of 4 letters and 1 more than the link behind it (0 if
     * there is none). At one place of a word a part is told by its length, so the key tells the whole split,
     * and the order of the keys is the order of splits.
     */
    private static final class SplitRow {
        private static final int LINK_COST = 3;
        private static final int NEXT_PART_COST = 15;
        /** As many as a word of 8 letters has if every stretch of 1 to 4 is a part, and of 1 or 2 a link. */
        private static final int MOST_SPLITS = 513;
        private static final int LINK_BITS = 3;
        private static final int PLACE_BITS = 5;
        private static final int ROW_BITS = PLACE_BITS * WORD_LETTERS;
        private static final int SIZE_BITS = 4;

        private final Lexicon lexicon;
        private final int[] letters = new int[WORD_LETTERS];
        /** The part, or NONE, from each letter of the word on, by each length. */
        private final int[] partsHere = new int[WORD_LETTERS * PART_LETTERS];
        private final int[] linksHere = new int[WORD_LETTERS * LINK_LETTERS];
        private final long[] keys = new long[MOST_SPLITS];
        private int length;
        private int found;

        SplitRow(Lexicon lexicon) {
            this.lexicon = lexicon;
        }

        void gather(int word) {
            readLetters(word);
            for (int at = 0; at < length; at++) {
                findFrom(at);
            }
            found = 0;
            tryParts(0, NONE, 0, 0, 0L);
        }

        private void readLetters(int word) {
            length = lettersIn(word);
            int rest = word;
            for (int i = length - 1; i >= 0; i--) {
                letters[i] = rest % 10;
                rest /= 10;
            }
        }

        private void findFrom(int at) {
            int text = 1;
            for (int size = 1; size <= PART_LETTERS && at + size <= length; size++) {
                text = 10 * text + letters[at + size - 1];
                partsHere[at * PART_LETTERS + size - 1] = lexicon.partWith(text);
                if (size <= LINK_LETTERS) {
                    linksHere[at * LINK_LETTERS + size - 1] = lexicon.linkWith(text);
                }
            }
        }

        /** Goes on with every part that may stand at a letter of the word, behind the part before (or NONE). */
        private void tryParts(int at, int before, int places, int costs, long code) {
            if (places >= WORD_LETTERS) {
                return;
            }
            for (int size = 1; size <= PART_LETTERS && at + size <= length; size++) {
                int part = partsHere[at * PART_LETTERS + size - 1];
                int end = at + size;
                if (part == NONE || !mayFollow(before, part, end)) {
                    continue;
                }
                int more = Lexicon.costOfCount(lexicon.partCounts[part]) + (before == NONE ? 0 : NEXT_PART_COST);
                long longer = code | ((long) (PART_LETTERS - size) << (shiftOf(places) + LINK_BITS));
                if (end == length) {
                    keep(costs + more, places + 1, longer);
                } else {
                    tryLinks(end, part, places + 1, costs + more, longer);
                }
            }
        }

        private boolean mayFollow(int before, int part, int end) {
            if (!lexicon.mayStand(part, before == NONE, end == length)) {
                return false;
            }
            return before == NONE || !lexicon.vetoes[before * MOST_PARTS + part];
        }

        /** Goes on behind a part: with nothing, and with every link that may stand there. */
        private void tryLinks(int at, int part, int places, int costs, long code) {
            tryParts(at, part, places, costs, code);
            for (int size = 1; size <= LINK_LETTERS && at + size < length; size++) {
                int link = linksHere[at * LINK_LETTERS + size - 1];
                if (link != NONE && !lexicon.bars[part * MOST_LINKS + link]) {
                    long linked = code | ((long) (link + 1) << shiftOf(places - 1));
                    tryParts(at + size, part, places, costs + LINK_COST, linked);
                }
            }
        }

        private void keep(int costs, int places, long code) {
            if (found < keys.length) {
                keys[found] = ((((long) costs << SIZE_BITS) | places) << ROW_BITS) | code;
                found++;
            }
        }

        /** The key number k in the order of splits; NONE if there are not so many. */
        long keyAt(int k) {
            if (k < 0 || k >= found || found > keys.length) {
                return NONE;
            }
            for (int top = found / 2 - 1; top >= 0; top--) {
                sink(top, found);
            }
            int left = found;
            for (int taken = 0; taken < k; taken++) {
                left--;
                long least = keys[0];
                keys[0] = keys[left];
                keys[left] = least;
                sink(0, left);
            }
            return keys[0];
        }

        /** Puts a key where it belongs in the heap of the first keys, whose least one is on top. */
        private void sink(int top, int left) {
            long key = keys[top];
            int at = top;
            for (int child = 2 * at + 1; child < left; child = 2 * at + 1) {
                if (child + 1 < left && keys[child + 1] < keys[child]) {
                    child++;
                }
                if (keys[child] >= key) {
                    break;
                }
                keys[at] = keys[child];
                at = child;
            }
            keys[at] = key;
        }

        static int costIn(long key) {
            return (int) (key >>> (ROW_BITS + SIZE_BITS));
        }

        static int placesIn(long key) {
            return (int) (key >>> ROW_BITS) & ((1 << SIZE_BITS) - 1);
        }

        /** The part at a place of a split of the word that was gathered last. */
        int partIn(long key, int place) {
            int at = 0;
            for (int i = 0; i < place; i++) {
                at += lettersAt(key, i) + lexicon.lettersOfLink(linkIn(key, i));
            }
            int size = lettersAt(key, place);
            return at + size > length ? NONE : partsHere[at * PART_LETTERS + size - 1];
        }

        /** The link behind the part at a place; NONE if there is none. */
        static int linkIn(long key, int place) {
            return ((int) (key >>> shiftOf(place)) & ((1 << LINK_BITS) - 1)) - 1;
        }

        private static int lettersAt(long key, int place) {
            return PART_LETTERS - ((int) (key >>> (shiftOf(place) + LINK_BITS)) & (PART_LETTERS - 1));
        }

        private static int shiftOf(int place) {
            return PLACE_BITS * (WORD_LETTERS - 1 - place);
        }
    }

    /** The words that were learned, each with the parts whose counts became more by it. */
    private static final class Lessons {
        private final Lexicon lexicon;
        private final int[] words = new int[MOST_LEARNED];
        private final int[] grown = new int[MOST_LEARNED * WORD_LETTERS];
        private final int[] grownSizes = new int[MOST_LEARNED];
        private int used;

        Lessons(Lexicon lexicon) {
            this.lexicon = lexicon;
        }

        void begin(int word) {
            if (used < MOST_LEARNED) {
                words[used] = word;
                grownSizes[used] = 0;
                used++;
            }
        }

        /** Only what really grew is noted: a count that stood at its top must not sink when the word is forgotten. */
        void grow(int part) {
            int lesson = used - 1;
            if (lesson < 0 || part < 0 || part >= MOST_PARTS || lexicon.partCounts[part] >= MOST_COUNT) {
                return;
            }
            int noted = grownSizes[lesson];
            if (noted < WORD_LETTERS) {
                lexicon.partCounts[part]++;
                grown[lesson * WORD_LETTERS + noted] = part;
                grownSizes[lesson]++;
            }
        }

        int takeBack() {
            if (used <= 0) {
                return NONE;
            }
            used--;
            for (int i = 0; i < grownSizes[used]; i++) {
                lexicon.partCounts[grown[used * WORD_LETTERS + i]]--;
            }
            return words[used];
        }
    }
}
