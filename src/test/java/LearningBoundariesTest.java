/** The boundary cases of promises 18 to 20 (learning), a test for each sentence. */
public final class LearningBoundariesTest extends Sentences {
    private static final int[] NO_WORDS = {LEAST, -1999999999, -199999999, -100000000, -10, -1, 0, 1, 2, 9, 20, 29, 99, 200,
        2000, 20000, 200000, 2000000, 20000000, 99999999, 200000000, 999999999, 1000000000, 1215752192, 1410065408,
        1999999999, 2000000000, MOST};

    public static void main(String[] args) throws Exception {
        runAll(LearningBoundariesTest.class, args, "Promise 18", "Promise 19", "Promise 20");
    }

    // ---- Promise 18: learn

    @Sentence(in = "Promise 18", says = "Learns a word, if it is sure: it has a split")
    static void p18_a_word_without_a_split_is_not_sure() {
        PartSplitter x = new PartSplitter();
        due("without parts", x.learn(11), false);
        x.addPart(11, 5, 2);
        due("a part that may not be alone", x.learn(11), false);
        x.setFlags(0, 7);
        due("a letter more", x.learn(112), false);
        due("nothing was learned", x.learned(), 0);
        due("nothing was counted", x.count(0), 5);
        due("a split", x.learn(11), true);
    }

    @Sentence(in = "Promise 18", says = "and the second one, if there is one, costs at least 20 more than the first one.")
    static void p18_a_gap_of_20_is_sure() {
        PartSplitter x = ones(1250);
        due("gap", x.cost(1111, 1) - x.cost(1111, 0), 20);
        due("learn", x.learn(1111), true);
        due("learned", x.learned(), 1);
    }

    @Sentence(in = "Promise 18", says = "and the second one, if there is one, costs at least 20 more than the first one.")
    static void p18_a_gap_of_19_is_not_sure() {
        PartSplitter x = new PartSplitter();
        for (int text : new int[] {11, 12, 13, 152}) {
            x.addPart(text, 5001, 7);
        }
        x.addPart(15, 5001, 2);
        x.addLink(15);
        x.bar(3, 0, true);
        due("1 -5- 2 -5- 3 is the first one", x.size(115253, 0), 3);
        due("1 52 5 3 is the second one, 1 52 -5- 3 is barred", x.size(115253, 1), 4);
        due("gap", x.cost(115253, 1) - x.cost(115253, 0), 19);
        due("learn", x.learn(115253), false);
        due("learned", x.learned(), 0);
        due("count", x.count(0), 5001);
    }

    @Sentence(in = "Promise 18", says = "and the second one, if there is one, costs at least 20 more than the first one.")
    static void p18_smaller_and_greater_gaps() {
        int[] counts = {5000, 2500, 1250, 625, 312, 156, 78};
        int[] gaps = {40, 30, 20, 10, 0, 10, 20};
        for (int i = 0; i < counts.length; i++) {
            PartSplitter x = ones(counts[i]);
            due("gap with count " + counts[i], x.cost(1111, 1) - x.cost(1111, 0), gaps[i]);
            due("gap of " + gaps[i], x.learn(1111), gaps[i] >= 20);
            due("counts of the whole", x.count(1) - counts[i], gaps[i] >= 20 && counts[i] > 312 ? 1 : 0);
            due("counts of the three", x.count(0) - 5001, gaps[i] >= 20 && counts[i] < 312 ? 3 : 0);
        }
    }

    @Sentence(in = "Promise 18", says = "and the second one, if there is one, costs at least 20 more than the first one.")
    static void p18_the_first_split_alone_is_sure() {
        PartSplitter x = new PartSplitter();
        x.addPart(11, 1, 7);
        due("one split", x.splits(11111), 1);
        due("learn", x.learn(11111), true);
    }

    @Sentence(in = "Promise 18", says = "and the second one, if there is one, costs at least 20 more than the first one.")
    static void p18_a_third_split_does_not_matter() {
        PartSplitter x = new PartSplitter();
        x.addPart(1112, 5001, 7);
        x.addPart(11, 5001, 7);
        x.addPart(111, 5001, 7);
        x.addPart(112, 5001, 7);
        due("second", x.cost(1112, 1), 35);
        due("no third one", x.splits(1112), 2);
        due("gap of 25", x.learn(1112), true);
        x.addPart(12, 5001, 7);
        due("second and third of the same cost", x.cost(1112, 1), x.cost(1112, 2));
        due("gap of 25 still", x.learn(1112), true);
    }

    @Sentence(in = "Promise 18", says = "The count of each part of the first split becomes 1 more")
    static void p18_counts_of_the_first_split_alone() {
        PartSplitter x = new PartSplitter();
        x.addPart(112, 5, 7);
        x.addPart(11, 5001, 7);
        x.addPart(12, 5001, 7);
        x.addPart(13, 5001, 7);
        x.addLink(14);
        due("learn", x.learn(112), true);
        due("a part of the second split", x.count(0), 5);
        due("the first part", x.count(1), 5002);
        due("the last part", x.count(2), 5002);
        due("a part of no split", x.count(3), 5001);
        due("learn with a link", x.learn(1142), true);
        due("the first part", x.count(1), 5003);
        due("the last part", x.count(2), 5003);
    }

    @Sentence(in = "Promise 18", says = "once for each of its places")
    static void p18_counts_once_for_each_place() {
        PartSplitter x = new PartSplitter();
        x.addPart(11, 100, 7);
        x.addPart(12, 100, 7);
        x.learn(11);
        due("one place", x.count(0), 101);
        x.learn(1121);
        due("two places", x.count(0), 103);
        due("one place of the other", x.count(1), 101);
        x.learn(122222222);
        due("eight places", x.count(1), 109);
        due("no place", x.count(0), 103);
    }

    @Sentence(in = "Promise 18", says = "but not above 9999.")
    static void p18_counts_stop_at_9999() {
        PartSplitter x = new PartSplitter();
        x.addPart(11, 9998, 7);
        x.addPart(12, 9998, 7);
        due("learn", x.learn(11), true);
        due("9999", x.count(0), 9999);
        due("learn at 9999", x.learn(11), true);
        due("still 9999", x.count(0), 9999);
        due("learned twice", x.learned(), 2);
        due("two places, one above", x.learn(122), true);
        due("9999", x.count(1), 9999);
        due("eight places, all above", x.learn(111111111), true);
        due("still 9999", x.count(0), 9999);
    }

    @Sentence(in = "Promise 18", says = "`word`: a text of 1 to 8 letters")
    static void p18_word_of_1_to_8_letters() {
        PartSplitter x = new PartSplitter();
        x.addPart(10, 1, 7);
        int word = 1;
        int count = 1;
        for (int letters = 1; letters <= 8; letters++) {
            word *= 10;
            count += letters;
            due(letters + " letters", x.learn(word), true);
            due("count", x.count(0), count);
        }
    }

    @Sentence(in = "Promise 18", says = "Returns whether it is sure.")
    static void p18_returns_whether_it_is_sure() {
        PartSplitter x = new PartSplitter();
        x.addPart(111, 5000, 7);
        x.addPart(11, 5001, 7);
        due("20 and 35: not sure", x.learn(111), false);
        due("five ones: not sure either", x.learn(111111), false);
        x.setFlags(1, 2);
        due("its only split", x.learn(111), true);
        x.setFlags(1, 7);
        due("10 and 35: sure now", x.learn(111), true);
        x.forget();
        due("10 and 35 still", x.learn(111), true);
        x.forget();
        x.forget();
        due("20 and 35 again: not sure", x.learn(111), false);
    }

    @Sentence(in = "Promise 18", says = "if word is no such text")
    static void p18_refuses_word() {
        PartSplitter x = new PartSplitter();
        x.addPart(11, 1, 7);
        for (int word : NO_WORDS) {
            dueThrow("learn " + word, ARGUMENT, () -> x.learn(word));
        }
        due("learned", x.learned(), 0);
        due("count", x.count(0), 1);
    }

    @Sentence(in = "Promise 18", says = "if 50 words are learned")
    static void p18_refuses_a_51st_word() {
        PartSplitter x = learnedTimes(49);
        due("the 50th word", x.learn(11), true);
        dueThrow("a 51st word", STATE, () -> x.learn(11));
        due("learned", x.learned(), 50);
        due("count", x.count(0), 51);
        x.forget();
        due("the 50th word again", x.learn(11), true);
        dueThrow("a 51st word again", STATE, () -> x.learn(11));
    }

    @Sentence(in = "Promise 18", says = "whether or not it is sure")
    static void p18_refuses_a_51st_word_that_is_not_sure() {
        PartSplitter x = learnedTimes(50);
        x.addPart(111, 4, 7);
        due("two splits that cost nearly the same", x.splits(111), 2);
        dueThrow("no split", STATE, () -> x.learn(12));
        dueThrow("not sure", STATE, () -> x.learn(111));
        dueThrow("sure", STATE, () -> x.learn(11));
        x.forget();
        due("no split, when there is room", x.learn(12), false);
        due("learned", x.learned(), 49);
    }

    // ---- Promise 19: forget

    @Sentence(in = "Promise 19", says = "Forgets the word that was learned last")
    static void p19_forgets_50_words_from_the_last_one() {
        PartSplitter x = new PartSplitter();
        x.addPart(11, 1, 7);
        x.addPart(12, 1, 7);
        int[] words = {11, 12, 112, 121, 1112, 1221, 111111112};
        for (int i = 0; i < 50; i++) {
            due("learn", x.learn(words[i % 7]), true);
        }
        for (int i = 49; i >= 0; i--) {
            due("forget", x.forget(), words[i % 7]);
            due("learned", x.learned(), i);
        }
        due("count", x.count(0), 1);
        due("count", x.count(1), 1);
        dueThrow("forget", STATE, x::forget);
    }

    @Sentence(in = "Promise 19", says = "Forgets the word that was learned last")
    static void p19_a_word_that_was_not_sure_is_not_the_last_one() {
        PartSplitter x = new PartSplitter();
        x.addPart(11, 1, 7);
        x.learn(111);
        due("not sure", x.learn(12), false);
        dueThrow("no word", ARGUMENT, () -> x.learn(1));
        due("forget", x.forget(), 111);
        due("count", x.count(0), 1);
    }

    @Sentence(in = "Promise 19", says = "what counts became more by it is taken off them again.")
    static void p19_takes_off_once_for_each_place() {
        PartSplitter x = new PartSplitter();
        x.addPart(11, 7, 7);
        x.addPart(12, 7, 7);
        x.learn(111211111);
        due("seven places", x.count(0), 14);
        due("one place", x.count(1), 8);
        x.forget();
        due("seven are taken off", x.count(0), 7);
        due("one is taken off", x.count(1), 7);
    }

    @Sentence(in = "Promise 19", says = "what counts became more by it is taken off them again.")
    static void p19_takes_nothing_off_a_count_that_did_not_become_more() {
        PartSplitter x = new PartSplitter();
        x.addPart(11, 9999, 7);
        x.addPart(12, 9998, 7);
        x.learn(1112212);
        due("at 9999 already", x.count(0), 9999);
        due("three places, one below 9999", x.count(1), 9999);
        x.learn(12);
        due("forget the second word", x.forget(), 12);
        due("which took nothing", x.count(1), 9999);
        due("forget the first word", x.forget(), 1112212);
        due("nothing is taken off", x.count(0), 9999);
        due("one is taken off", x.count(1), 9998);
    }

    @Sentence(in = "Promise 19", says = "what counts became more by it is taken off them again.")
    static void p19_takes_off_what_grew_then_whatever_stands_now() {
        PartSplitter x = new PartSplitter();
        x.addPart(11, 5000, 7);
        x.addPart(12, 5000, 7);
        x.addLink(13);
        x.learn(1132);
        x.setFlags(0, 0);
        x.veto(0, 1, true);
        x.bar(0, 0, true);
        x.addPart(1132, 9999, 7);
        x.addPart(1112, 9999, 7);
        due("its first split is another one now", x.head(1132), 2);
        due("forget", x.forget(), 1132);
        due("first part", x.count(0), 5000);
        due("second part", x.count(1), 5000);
        due("the part of now", x.count(2), 9999);
    }

    @Sentence(in = "Promise 19", says = "Returns the word.")
    static void p19_returns_the_word() {
        PartSplitter x = new PartSplitter();
        x.addPart(10, 1, 7);
        x.addPart(19, 1, 7);
        int[] words = {10, 100, 100000000, 199999999, 10, 10, 100000009};
        for (int word : words) {
            x.learn(word);
        }
        for (int i = words.length - 1; i >= 0; i--) {
            due("forget", x.forget(), words[i]);
        }
    }

    @Sentence(in = "Promise 19", says = "if none is learned")
    static void p19_refuses_when_none_is_learned() {
        PartSplitter x = new PartSplitter();
        dueThrow("a new object", STATE, x::forget);
        x.addPart(11, 1, 7);
        x.learn(12);
        dueThrow("a word that was not sure", STATE, x::forget);
        x.learn(11);
        x.forget();
        dueThrow("all forgotten", STATE, x::forget);
        dueThrow("all forgotten, again", STATE, x::forget);
        due("learned", x.learned(), 0);
        due("count", x.count(0), 1);
    }

    // ---- Promise 20: learned

    @Sentence(in = "Promise 20", says = "Returns how many words are learned, and not forgotten.")
    static void p20_learned_from_0_to_50() {
        PartSplitter x = new PartSplitter();
        x.addPart(11, 1, 7);
        for (int i = 0; i < 50; i++) {
            due("learned", x.learned(), i);
            x.learn(11);
        }
        due("learned", x.learned(), 50);
        dueThrow("a 51st word", STATE, () -> x.learn(11));
        due("after it was refused", x.learned(), 50);
    }

    @Sentence(in = "Promise 20", says = "and not forgotten.")
    static void p20_learned_counts_no_forgotten_and_no_unsure_word() {
        PartSplitter x = learnedTimes(2);
        x.learn(12);
        due("not sure", x.learned(), 2);
        x.forget();
        due("one forgotten", x.learned(), 1);
        x.forget();
        due("two forgotten", x.learned(), 0);
        dueThrow("none is learned", STATE, x::forget);
        due("not below 0", x.learned(), 0);
        x.learn(11);
        due("learned again", x.learned(), 1);
    }

    // ---- what the tests share

    private static PartSplitter learnedTimes(int times) {
        PartSplitter x = new PartSplitter();
        x.addPart(11, 1, 7);
        for (int i = 0; i < times; i++) {
            x.learn(11);
        }
        return x;
    }

    /** The word of three ones has two splits: three parts, which cost 60 together, and a whole one of this count. */
    private static PartSplitter ones(int countOfWhole) {
        PartSplitter x = new PartSplitter();
        x.addPart(11, 5001, 7);
        x.addPart(1111, countOfWhole, 7);
        return x;
    }
}
