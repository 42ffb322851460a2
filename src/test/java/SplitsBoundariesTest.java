/** The boundary cases of promises 12 to 17 (splits), a test for each sentence. */
public final class SplitsBoundariesTest extends Sentences {
    private static final int[] NO_WORDS = {LEAST, -1999999999, -199999999, -100000000, -10, -1, 0, 1, 2, 9, 20, 29, 99, 200,
        2000, 20000, 200000, 2000000, 20000000, 99999999, 200000000, 999999999, 1000000000, 1215752192, 1410065408,
        1999999999, 2000000000, MOST};
    private static final int[] FAR = {513, 514, 1024, 65536, 1 << 20, 1 << 28, MOST - 1, MOST};
    private static final int[] NEGATIVE = {-1, -2, -65536, LEAST + 1, LEAST};
    private static final int EIGHT_ONES = 111111111;

    public static void main(String[] args) throws Exception {
        runAll(SplitsBoundariesTest.class, args, "Promise 12", "Promise 13", "Promise 14", "Promise 15", "Promise 16",
            "Promise 17");
    }

    // ---- Promise 12: splits

    @Sentence(in = "Promise 12", says = "Returns how many splits a word has.")
    static void p12_splits_from_0_to_513() {
        PartSplitter x = new PartSplitter();
        due("without parts", x.splits(EIGHT_ONES), 0);
        x.addPart(11, 1, 7);
        due("one part", x.splits(EIGHT_ONES), 1);
        x.addPart(111, 1, 7);
        x.addPart(1111, 1, 7);
        x.addPart(11111, 1, 7);
        due("four parts", x.splits(EIGHT_ONES), 108);
        x.addLink(11);
        x.addLink(111);
        due("four parts and two links", x.splits(EIGHT_ONES), 513);
    }

    @Sentence(in = "Promise 12", says = "`word`: a text of 1 to 8 letters")
    static void p12_word_of_1_to_8_letters() {
        PartSplitter x = mostSplits();
        int[] splits = {1, 2, 5, 13, 32, 81, 204, 513};
        int word = 1;
        for (int letters = 1; letters <= 8; letters++) {
            word = 10 * word + 1;
            due(letters + " letters", x.splits(word), splits[letters - 1]);
        }
    }

    @Sentence(in = "Promise 12", says = "Returns how many.")
    static void p12_returns_0_without_splits() {
        PartSplitter x = mostSplits();
        due("another letter", x.splits(12), 0);
        due("another letter behind", x.splits(111111112), 0);
        due("another letter ahead", x.splits(121111111), 0);
        due("a zero ahead", x.splits(1011), 0);
        due("a word after a longer one", x.splits(EIGHT_ONES) - x.splits(11), 512);
    }

    @Sentence(in = "Promise 12", says = "if word is no such text")
    static void p12_refuses_word() {
        PartSplitter x = mostSplits();
        for (int word : NO_WORDS) {
            dueThrow("splits of " + word, ARGUMENT, () -> x.splits(word));
        }
    }

    // ---- Promise 13: cost

    @Sentence(in = "Promise 13", says = "Returns the cost of a split of a word.")
    static void p13_cost_from_10_to_1225() {
        PartSplitter x = new PartSplitter();
        x.addPart(11, 9999, 7);
        x.addPart(12, 1, 7);
        due("least", x.cost(11, 0), 10);
        due("most", x.cost(122222222, 0), 1225);
    }

    @Sentence(in = "Promise 13", says = "`word`: a text of 1 to 8 letters")
    static void p13_word_of_1_to_8_letters() {
        PartSplitter x = new PartSplitter();
        x.addPart(10, 5001, 7);
        int word = 1;
        for (int letters = 1; letters <= 8; letters++) {
            word *= 10;
            due(letters + " letters", x.cost(word, 0), 25 * letters - 15);
        }
    }

    @Sentence(in = "Promise 13", says = "`k`: from 0, in the order of splits")
    static void p13_k_from_0_to_512() {
        PartSplitter x = mostSplits();
        int[] firsts = {11, 111, 1111};
        due("the first one of all", x.cost(EIGHT_ONES, 0), 295);
        int before = 0;
        for (int k = 0; k < 450; k++) {
            int cost = x.cost(EIGHT_ONES, k);
            due("split " + k + " costs no less than the one ahead of it", cost >= before, true);
            before = cost;
        }
        due("the last one", x.cost(EIGHT_ONES, 512), 1225);
        for (int word : firsts) {
            due("split 0 of " + word, x.cost(word, 0), 140);
        }
    }

    @Sentence(in = "Promise 13", says = "NONE if there are not so many.")
    static void p13_returns_NONE() {
        PartSplitter x = mostSplits();
        due("no split", x.cost(12, 0), NONE);
        due("one split", x.cost(11, 1), NONE);
        due("two splits, the last one", x.cost(111, 1), 295);
        due("two splits", x.cost(111, 2), NONE);
        for (int k : FAR) {
            due("split " + k, x.cost(EIGHT_ONES, k), NONE);
            due("split " + k + " of a word without one", x.cost(12, k), NONE);
        }
    }

    @Sentence(in = "Promise 13", says = "if word is no such text")
    static void p13_refuses_word() {
        PartSplitter x = mostSplits();
        for (int word : NO_WORDS) {
            dueThrow("cost of " + word, ARGUMENT, () -> x.cost(word, 0));
            dueThrow("cost of a far split of " + word, ARGUMENT, () -> x.cost(word, MOST));
        }
    }

    @Sentence(in = "Promise 13", says = "or k is below 0")
    static void p13_refuses_k() {
        PartSplitter x = mostSplits();
        for (int k : NEGATIVE) {
            dueThrow("k " + k, ARGUMENT, () -> x.cost(11, k));
            dueThrow("k " + k + " of a word without a split", ARGUMENT, () -> x.cost(12, k));
        }
    }

    // ---- Promise 14: size

    @Sentence(in = "Promise 14", says = "Returns how many parts a split of a word has.")
    static void p14_size_counts_parts_alone() {
        PartSplitter x = new PartSplitter();
        x.addPart(11, 1, 7);
        x.addLink(12);
        due("two parts and a link", x.size(1121, 0), 2);
        due("three parts and two links", x.size(112121, 0), 3);
        due("three parts and a link", x.size(11121, 0), 3);
    }

    @Sentence(in = "Promise 14", says = "`word`: a text of 1 to 8 letters")
    static void p14_word_of_1_to_8_letters() {
        PartSplitter x = new PartSplitter();
        x.addPart(19, 1, 7);
        int word = 1;
        for (int letters = 1; letters <= 8; letters++) {
            word = 10 * word + 9;
            due(letters + " letters", x.size(word, 0), letters);
        }
    }

    @Sentence(in = "Promise 14", says = "`k`: from 0, in the order of splits")
    static void p14_k_from_0_to_512() {
        PartSplitter x = mostSplits();
        due("the first one", x.size(EIGHT_ONES, 0), 2);
        due("one ahead of the last one", x.size(EIGHT_ONES, 511), 7);
        due("the last one", x.size(EIGHT_ONES, 512), 8);
        due("split 0", x.size(111, 0), 1);
        due("split 1", x.size(111, 1), 2);
    }

    @Sentence(in = "Promise 14", says = "NONE if there are not so many splits.")
    static void p14_returns_NONE() {
        PartSplitter x = mostSplits();
        due("no split", x.size(12, 0), NONE);
        due("one split", x.size(11, 1), NONE);
        due("two splits", x.size(111, 2), NONE);
        for (int k : FAR) {
            due("split " + k, x.size(EIGHT_ONES, k), NONE);
            due("split " + k + " of a word without one", x.size(12, k), NONE);
        }
    }

    @Sentence(in = "Promise 14", says = "if word is no such text")
    static void p14_refuses_word() {
        PartSplitter x = mostSplits();
        for (int word : NO_WORDS) {
            dueThrow("size of " + word, ARGUMENT, () -> x.size(word, 0));
            dueThrow("size of a far split of " + word, ARGUMENT, () -> x.size(word, MOST));
        }
    }

    @Sentence(in = "Promise 14", says = "or k is below 0")
    static void p14_refuses_k() {
        PartSplitter x = mostSplits();
        for (int k : NEGATIVE) {
            dueThrow("k " + k, ARGUMENT, () -> x.size(11, k));
            dueThrow("k " + k + " of a word without a split", ARGUMENT, () -> x.size(12, k));
        }
    }

    // ---- Promise 15: partAt

    @Sentence(in = "Promise 15", says = "Returns a part of a split of a word, and the link behind it.")
    static void p15_the_link_is_the_one_behind() {
        PartSplitter x = new PartSplitter();
        x.addPart(11, 1, 7);
        x.addPart(12, 1, 7);
        x.addLink(13);
        x.addLink(145);
        due("behind the first part", x.partAt(1132451, 0, 0), 1);
        due("behind the second part", x.partAt(1132451, 0, 1), 12);
        due("nothing behind the last part", x.partAt(1132451, 0, 2), 0);
    }

    @Sentence(in = "Promise 15", says = "`word`: a text of 1 to 8 letters")
    static void p15_word_of_1_to_8_letters() {
        PartSplitter x = new PartSplitter();
        x.addPart(19, 1, 7);
        x.addPart(10, 1, 7);
        int word = 1;
        for (int letters = 1; letters <= 8; letters++) {
            word *= 10;
            due("the last one of " + letters + " letters", x.partAt(word, 0, letters - 1), 10);
        }
        due("the first one of 8 letters", x.partAt(190000009, 0, 0), 0);
        due("the last one of 8 letters", x.partAt(190000009, 0, 7), 0);
    }

    @Sentence(in = "Promise 15", says = "`k`: from 0, in the order of splits")
    static void p15_k_from_0_to_512() {
        PartSplitter x = mostSplits();
        due("the first one: 1111 1111", x.partAt(EIGHT_ONES, 0, 0), 30);
        due("the last one: all ones", x.partAt(EIGHT_ONES, 512, 0), 0);
        due("all ones but 11 at the end", x.partAt(EIGHT_ONES, 511, 6) + x.size(EIGHT_ONES, 511), 7);
        due("split 0", x.partAt(111, 0, 0), 10);
        due("split 1", x.partAt(111, 1, 0), 0);
    }

    @Sentence(in = "Promise 15", says = "`place`: from 0: which of its parts")
    static void p15_place_from_0_to_7() {
        PartSplitter x = new PartSplitter();
        for (int letter = 0; letter < 8; letter++) {
            x.addPart(11 + letter, 1, 7);
        }
        for (int place = 0; place < 8; place++) {
            due("place " + place, x.partAt(112345678, 0, place), 10 * place);
        }
    }

    @Sentence(in = "Promise 15", says = "Returns 10 times the part, and 1 more than the number of the link behind it (0 if there is none), added")
    static void p15_returns_0_to_156() {
        PartSplitter x = new PartSplitter();
        for (int part = 0; part < 16; part++) {
            x.addPart(100 + part, 1, 7);
        }
        for (int link = 0; link < 6; link++) {
            x.addLink(120 + link);
        }
        for (int part = 0; part < 16; part++) {
            due("part " + part + " with nothing", x.partAt(10000 + 100 * part, 0, 0), 10 * part);
            for (int link = 0; link < 6; link++) {
                int word = 1000000 + 10000 * part + 2000 + 100 * link + 15;
                due("part " + part + " with link " + link, x.partAt(word, 0, 0), 10 * part + link + 1);
            }
        }
        due("the last part", x.partAt(1152515, 0, 1), 150);
    }

    @Sentence(in = "Promise 15", says = "NONE if there are not so many splits or parts.")
    static void p15_returns_NONE_for_k() {
        PartSplitter x = mostSplits();
        due("no split", x.partAt(12, 0, 0), NONE);
        due("one split", x.partAt(11, 1, 0), NONE);
        due("two splits", x.partAt(111, 2, 0), NONE);
        for (int k : FAR) {
            due("split " + k, x.partAt(EIGHT_ONES, k, 0), NONE);
            due("split " + k + " and a far place", x.partAt(EIGHT_ONES, k, MOST), NONE);
        }
    }

    @Sentence(in = "Promise 15", says = "NONE if there are not so many splits or parts.")
    static void p15_returns_NONE_for_place() {
        PartSplitter x = mostSplits();
        due("one part", x.partAt(11, 0, 1), NONE);
        due("two parts, the last one", x.partAt(EIGHT_ONES, 0, 1), 30);
        due("two parts", x.partAt(EIGHT_ONES, 0, 2), NONE);
        due("eight parts, the last one", x.partAt(EIGHT_ONES, 512, 7), 0);
        for (int place : new int[] {8, 9, 15, 16, 20, 32, 64, 65536, 1 << 29, 1 << 30, MOST - 1, MOST}) {
            due("place " + place, x.partAt(11, 0, place), NONE);
            due("place " + place + " behind two parts", x.partAt(EIGHT_ONES, 0, place), NONE);
            due("place " + place + " behind eight parts", x.partAt(EIGHT_ONES, 512, place), NONE);
        }
    }

    @Sentence(in = "Promise 15", says = "if word is no such text")
    static void p15_refuses_word() {
        PartSplitter x = mostSplits();
        for (int word : NO_WORDS) {
            dueThrow("partAt of " + word, ARGUMENT, () -> x.partAt(word, 0, 0));
            dueThrow("partAt far behind of " + word, ARGUMENT, () -> x.partAt(word, MOST, MOST));
        }
    }

    @Sentence(in = "Promise 15", says = "or k or place is below 0")
    static void p15_refuses_k() {
        PartSplitter x = mostSplits();
        for (int k : NEGATIVE) {
            dueThrow("k " + k, ARGUMENT, () -> x.partAt(11, k, 0));
            dueThrow("k " + k + " and a far place", ARGUMENT, () -> x.partAt(11, k, MOST));
            dueThrow("k " + k + " of a word without a split", ARGUMENT, () -> x.partAt(12, k, 0));
        }
    }

    @Sentence(in = "Promise 15", says = "or k or place is below 0")
    static void p15_refuses_place() {
        PartSplitter x = mostSplits();
        for (int place : NEGATIVE) {
            dueThrow("place " + place, ARGUMENT, () -> x.partAt(11, 0, place));
            dueThrow("place " + place + " behind the splits", ARGUMENT, () -> x.partAt(11, MOST, place));
            dueThrow("place " + place + " of a word without a split", ARGUMENT, () -> x.partAt(12, 0, place));
            dueThrow("place and k " + place, ARGUMENT, () -> x.partAt(11, place, place));
        }
    }

    // ---- Promise 16: head

    @Sentence(in = "Promise 16", says = "Returns the head of the first split of a word.")
    static void p16_head_of_the_first_split() {
        PartSplitter x = new PartSplitter();
        x.addPart(112, 1250, 7);
        x.addPart(11, 5001, 7);
        x.addPart(12, 5001, 7);
        due("the first split has two parts", x.size(112, 0), 2);
        due("its last part", x.head(112), 2);
        x.setFlags(2, 3);
        due("the first split has one part", x.size(112, 0), 1);
        due("its only part", x.head(112), 0);
    }

    @Sentence(in = "Promise 16", says = "`word`: a text of 1 to 8 letters")
    static void p16_word_of_1_to_8_letters() {
        PartSplitter x = new PartSplitter();
        x.addPart(10, 1, 7);
        x.addPart(19, 1, 7);
        int zeros = 1;
        for (int letters = 1; letters <= 8; letters++) {
            zeros *= 10;
            due(letters + " letters ending with 0", x.head(zeros), 0);
            due(letters + " letters ending with 9", x.head(zeros + 9), 1);
        }
    }

    @Sentence(in = "Promise 16", says = "Returns the part; NONE if the word has no split.")
    static void p16_returns_a_part_or_NONE() {
        PartSplitter x = new PartSplitter();
        due("without parts", x.head(11), NONE);
        for (int part = 0; part < 16; part++) {
            x.addPart(100 + part, 1, 7);
        }
        for (int part = 0; part < 16; part++) {
            due("part " + part, x.head(10000 + part), part);
        }
        due("no split", x.head(116), NONE);
        due("a beginning of a part", x.head(11), NONE);
        due("a word that begins with a split", x.head(1000), NONE);
        x.setFlags(15, 3);
        due("a part that may not be the last one", x.head(10015), NONE);
    }

    @Sentence(in = "Promise 16", says = "if word is no such text")
    static void p16_refuses_word() {
        PartSplitter x = mostSplits();
        for (int word : NO_WORDS) {
            dueThrow("head of " + word, ARGUMENT, () -> x.head(word));
        }
    }

    // ---- Promise 17: readings

    @Sentence(in = "Promise 17", says = "Returns how many nested readings all splits of a word have together.")
    static void p17_readings_of_all_splits() {
        PartSplitter x = mostSplits();
        due("one split", x.readings(11), 1);
        due("11, 1 1", x.readings(111), 2);
        due("111, 11 1, 1 11, 1 1 1, 1 -1- 1", x.readings(1111), 6);
        due("8 letters, 513 splits", x.readings(EIGHT_ONES), 8264);
        due("one split, behind a word of many", x.readings(11), 1);
        due("no split, behind a word of many", x.readings(12), 0);
    }

    @Sentence(in = "Promise 17", says = "`word`: a text of 1 to 8 letters")
    static void p17_word_of_1_to_8_letters() {
        PartSplitter x = new PartSplitter();
        x.addPart(10, 1, 7);
        int[] trees = {1, 1, 2, 5, 14, 42, 132, 429};
        int word = 1;
        for (int letters = 1; letters <= 8; letters++) {
            word *= 10;
            due(letters + " letters", x.readings(word), trees[letters - 1]);
        }
    }

    @Sentence(in = "Promise 17", says = "Returns how many.")
    static void p17_returns_0_without_splits() {
        PartSplitter x = new PartSplitter();
        due("without parts", x.readings(11), 0);
        x.addPart(11, 1, 6);
        due("without a first part", x.readings(EIGHT_ONES), 0);
        x.setFlags(0, 7);
        due("another letter", x.readings(12), 0);
        due("another letter behind", x.readings(112), 0);
    }

    @Sentence(in = "Promise 17", says = "if word is no such text")
    static void p17_refuses_word() {
        PartSplitter x = mostSplits();
        for (int word : NO_WORDS) {
            dueThrow("readings of " + word, ARGUMENT, () -> x.readings(word));
        }
    }

    // ---- what the tests share

    /** Parts and links of the letter 1 in every length: no word has more splits than eight ones have here. */
    private static PartSplitter mostSplits() {
        PartSplitter x = new PartSplitter();
        x.addPart(11, 1, 7);
        x.addPart(111, 1, 7);
        x.addPart(1111, 1, 7);
        x.addPart(11111, 1, 7);
        x.addLink(11);
        x.addLink(111);
        return x;
    }
}
