/** The boundary cases of the document's general part and of its terms, a test for each sentence. */
public final class TermsBoundariesTest extends Sentences {
    private static final String NO_CHANGE = "A call that throws an exception changes nothing";
    private static final String FIRST_NAMED =
        "if several exceptions apply, the one that its @throws lines name first is thrown.";
    private static final String BY_PLACE = "then by what comes first from the left "
        + "(a part, what is behind it, the next part, what is behind that, and so on) and differs";
    private static final int[] WORDS = {11, 111, 1171, 11781, 1141, 111111111};
    private static final int[] TEXTS = {112, 1215, 1177};

    /** Makes an object and some calls of it, the same ones each time. */
    private interface Maker {
        PartSplitter make();
    }

    private interface Call {
        Object on(PartSplitter x);
    }

    public static void main(String[] args) throws Exception {
        runAll(TermsBoundariesTest.class, args, "Terms");
    }

    // ---- 512 calls

    @Sentence(in = "What it is", says = "An object is used for at most 512 calls after it has been made")
    static void calls_512_of_words_learned_and_forgotten() {
        PartSplitter x = new PartSplitter();
        due("addPart", x.addPart(11, 1, 7), 0);
        for (int call = 2; call < 512; call += 2) {
            due("learn as call " + call, x.learn(111), true);
            due("forget as call " + (call + 1), x.forget(), 111);
        }
        due("count as call 512", x.count(0), 1);
    }

    @Sentence(in = "What it is", says = "An object is used for at most 512 calls after it has been made")
    static void calls_512_of_vetoes_and_refusals() {
        PartSplitter x = new PartSplitter();
        due("addPart", x.addPart(11, 1, 7), 0);
        for (int call = 2; call < 512; call += 2) {
            due("veto as call " + call, x.veto(0, 0, call % 4 == 0), call > 2 && call % 4 != 0);
            dueThrow("addPart as call " + (call + 1), STATE, () -> x.addPart(11, 1, 7));
        }
        due("splits as call 512", x.splits(111), 1);
    }

    @Sentence(in = "What it is", says = "An object is used for at most 512 calls after it has been made")
    static void calls_512_of_the_word_with_the_most_splits() {
        PartSplitter x = mostSplits();
        for (int call = 7; call < 512; call++) {
            int k = call - 7;
            due("partAt as call " + call, x.partAt(111111111, k, 0) == NONE, false);
        }
        due("splits as call 512", x.splits(111111111), 513);
    }

    // ---- exceptions

    @Sentence(in = "Terms", says = NO_CHANGE)
    static void refused_addPart_changes_nothing() {
        for (Maker maker : makers()) {
            leaves(maker, "no letters", ARGUMENT, x -> x.addPart(1, 5, 7));
            leaves(maker, "5 letters", ARGUMENT, x -> x.addPart(117777, 5, 7));
            leaves(maker, "count 0", ARGUMENT, x -> x.addPart(1177, 0, 7));
            leaves(maker, "count 10000", ARGUMENT, x -> x.addPart(1177, 10000, 7));
            leaves(maker, "flags 0", ARGUMENT, x -> x.addPart(1177, 5, 0));
            leaves(maker, "flags 8", ARGUMENT, x -> x.addPart(1177, 5, 8));
        }
        leaves(() -> small(), "the same letters", STATE, x -> x.addPart(112, 5, 7));
        leaves(() -> full(), "the same letters and full", STATE, x -> x.addPart(112, 5, 7));
        leaves(() -> full(), "a 17th part", STATE, x -> x.addPart(1177, 5, 7));
    }

    @Sentence(in = "Terms", says = NO_CHANGE)
    static void refused_setFlags_changes_nothing() {
        for (Maker maker : makers()) {
            leaves(maker, "part -1", INDEX, x -> x.setFlags(-1, 0));
            leaves(maker, "part behind the last", INDEX, x -> x.setFlags(x.parts(), 0));
            leaves(maker, "part 16", INDEX, x -> x.setFlags(16, 0));
        }
        leaves(() -> small(), "flags -1", ARGUMENT, x -> x.setFlags(0, -1));
        leaves(() -> small(), "flags 8", ARGUMENT, x -> x.setFlags(2, 8));
        leaves(() -> full(), "flags 8", ARGUMENT, x -> x.setFlags(15, 8));
    }

    @Sentence(in = "Terms", says = NO_CHANGE)
    static void refused_addLink_changes_nothing() {
        for (Maker maker : makers()) {
            leaves(maker, "no letters", ARGUMENT, x -> x.addLink(1));
            leaves(maker, "3 letters", ARGUMENT, x -> x.addLink(1777));
        }
        leaves(() -> small(), "the same letters", STATE, x -> x.addLink(178));
        leaves(() -> full(), "the same letters and full", STATE, x -> x.addLink(178));
        leaves(() -> full(), "a 7th link", STATE, x -> x.addLink(16));
    }

    @Sentence(in = "Terms", says = NO_CHANGE)
    static void refused_veto_changes_nothing() {
        for (Maker maker : makers()) {
            leaves(maker, "part -1", INDEX, x -> x.veto(-1, 16, true));
            leaves(maker, "part behind the last", INDEX, x -> x.veto(x.parts(), 0, true));
            leaves(maker, "next -1", INDEX, x -> x.veto(1, -1, true));
            leaves(maker, "next behind the last", INDEX, x -> x.veto(0, x.parts(), true));
            leaves(maker, "next 16, taken away", INDEX, x -> x.veto(0, 16, false));
        }
    }

    @Sentence(in = "Terms", says = NO_CHANGE)
    static void refused_bar_changes_nothing() {
        for (Maker maker : makers()) {
            leaves(maker, "part -1", INDEX, x -> x.bar(-1, 6, true));
            leaves(maker, "part behind the last", INDEX, x -> x.bar(x.parts(), 0, true));
            leaves(maker, "link -1", INDEX, x -> x.bar(1, -1, true));
            leaves(maker, "link 6", INDEX, x -> x.bar(0, 6, true));
            leaves(maker, "link 6, taken away", INDEX, x -> x.bar(0, 6, false));
        }
        leaves(() -> small(), "link behind the last", INDEX, x -> x.bar(0, 2, true));
    }

    @Sentence(in = "Terms", says = NO_CHANGE)
    static void refused_questions_change_nothing() {
        for (Maker maker : makers()) {
            leaves(maker, "count", INDEX, x -> x.count(x.parts()));
            leaves(maker, "costOf", INDEX, x -> x.costOf(-1));
            leaves(maker, "find", ARGUMENT, x -> x.find(1));
            leaves(maker, "splits", ARGUMENT, x -> x.splits(1111111111));
            leaves(maker, "cost", ARGUMENT, x -> x.cost(111, -1));
            leaves(maker, "size", ARGUMENT, x -> x.size(111, -1));
            leaves(maker, "partAt", ARGUMENT, x -> x.partAt(111, 0, -1));
            leaves(maker, "head", ARGUMENT, x -> x.head(0));
            leaves(maker, "readings", ARGUMENT, x -> x.readings(-111));
        }
    }

    @Sentence(in = "Terms", says = NO_CHANGE)
    static void refused_learn_changes_nothing() {
        for (Maker maker : makers()) {
            leaves(maker, "no letters", ARGUMENT, x -> x.learn(1));
            leaves(maker, "9 letters", ARGUMENT, x -> x.learn(1111111111));
        }
        leaves(() -> fifty(), "a 51st word", STATE, x -> x.learn(11));
        leaves(() -> fifty(), "a 51st word of two parts", STATE, x -> x.learn(111));
    }

    @Sentence(in = "Terms", says = NO_CHANGE)
    static void refused_forget_changes_nothing() {
        leaves(() -> new PartSplitter(), "forget", STATE, x -> x.forget());
        leaves(() -> afterForget(full()), "forget behind the last one", STATE, x -> x.forget());
        leaves(() -> afterForget(small()), "forget behind the last one", STATE, x -> x.forget());
        PartSplitter x = small();
        x.forget();
        dueThrow("forget", STATE, x::forget);
        dueThrow("forget once more", STATE, x::forget);
        due("learned", x.learned(), 0);
        due("count", x.count(0), 5000);
        due("learn", x.learn(11), true);
        due("learned", x.learned(), 1);
        due("forget", x.forget(), 11);
    }

    @Sentence(in = "Terms", says = FIRST_NAMED)
    static void first_named_exception_of_addPart() {
        PartSplitter x = full();
        dueThrow("full, no letters", ARGUMENT, () -> x.addPart(1, 5, 7));
        dueThrow("full, 5 letters", ARGUMENT, () -> x.addPart(100000, 5, 7));
        dueThrow("full, count 0", ARGUMENT, () -> x.addPart(1177, 0, 7));
        dueThrow("full, count 10000", ARGUMENT, () -> x.addPart(1177, 10000, 7));
        dueThrow("full, flags 0", ARGUMENT, () -> x.addPart(1177, 5, 0));
        dueThrow("full, flags 8", ARGUMENT, () -> x.addPart(1177, 5, 8));
        PartSplitter y = small();
        dueThrow("the same letters, count 0", ARGUMENT, () -> y.addPart(11, 0, 7));
        dueThrow("the same letters, flags 8", ARGUMENT, () -> y.addPart(11, 5, 8));
    }

    @Sentence(in = "Terms", says = FIRST_NAMED)
    static void first_named_exception_of_setFlags() {
        PartSplitter x = new PartSplitter();
        dueThrow("empty, flags 8", INDEX, () -> x.setFlags(0, 8));
        PartSplitter y = full();
        dueThrow("part 16, flags -1", INDEX, () -> y.setFlags(16, -1));
        dueThrow("part -1, flags 8", INDEX, () -> y.setFlags(-1, 8));
    }

    @Sentence(in = "Terms", says = FIRST_NAMED)
    static void first_named_exception_of_addLink() {
        PartSplitter x = full();
        dueThrow("full, no letters", ARGUMENT, () -> x.addLink(1));
        dueThrow("full, 3 letters", ARGUMENT, () -> x.addLink(1000));
    }

    @Sentence(in = "Terms", says = FIRST_NAMED)
    static void first_named_exception_of_learn() {
        PartSplitter x = fifty();
        dueThrow("50 words, no letters", ARGUMENT, () -> x.learn(1));
        dueThrow("50 words, 9 letters", ARGUMENT, () -> x.learn(1111111111));
    }

    // ---- letters and texts

    @Sentence(in = "Terms", says = "Letters are 0 to 9.")
    static void letters_are_0_to_9() {
        for (int letter = 0; letter <= 9; letter++) {
            PartSplitter x = new PartSplitter();
            due("a part of the letter " + letter, x.addPart(10 + letter, 1, 7), 0);
            due("a link of the letter " + letter, x.addLink(10 + letter), 0);
            int word = 100000000 + 11111111 * letter;
            due("found", x.find(10 + letter), 0);
            due("8 letters " + letter, x.splits(word) > 1, true);
            due("5 parts with 3 links", x.cost(word, 0), 140 * 5 + 15 * 4 + 3 * 3);
            due("no more than 9", x.find(10 + (letter + 1) % 10), NONE);
        }
    }

    @Sentence(in = "Terms", says = "A text is a row of letters, written as a decimal number behind a 1: 1305 is the text 3, 0, 5.")
    static void text_1305_is_3_0_5() {
        PartSplitter x = new PartSplitter();
        x.addPart(13, 1, 7);
        x.addPart(10, 1, 7);
        x.addPart(15, 1, 7);
        due("splits", x.splits(1305), 1);
        due("first letter", x.partAt(1305, 0, 0), 0);
        due("second letter", x.partAt(1305, 0, 1), 10);
        due("third letter", x.partAt(1305, 0, 2), 20);
        due("no fourth letter", x.partAt(1305, 0, 3), NONE);
        dueThrow("305", ARGUMENT, () -> x.splits(305));
        dueThrow("2305", ARGUMENT, () -> x.splits(2305));
        dueThrow("-1305", ARGUMENT, () -> x.splits(-1305));
    }

    @Sentence(in = "Terms", says = "Parts have 1 to 4 letters")
    static void parts_have_1_to_4_letters() {
        PartSplitter x = new PartSplitter();
        due("1 letter", x.addPart(10, 1, 7), 0);
        due("4 letters", x.addPart(10000, 1, 7), 1);
        dueThrow("0 letters", ARGUMENT, () -> x.addPart(1, 1, 7));
        dueThrow("5 letters", ARGUMENT, () -> x.addPart(100000, 1, 7));
        due("a part of 4 letters twice", x.partAt(100000000, 0, 1), 10);
        due("a part of 4 letters at the end", x.partAt(100000, 1, 1), 10);
    }

    @Sentence(in = "Terms", says = "links 1 or 2")
    static void links_have_1_or_2_letters() {
        PartSplitter x = new PartSplitter();
        x.addPart(11, 1, 7);
        due("1 letter", x.addLink(10), 0);
        due("2 letters", x.addLink(100), 1);
        dueThrow("0 letters", ARGUMENT, () -> x.addLink(1));
        dueThrow("3 letters", ARGUMENT, () -> x.addLink(1000));
        due("1 letter between", x.partAt(1101, 0, 0), 1);
        due("2 letters between", x.partAt(11001, 0, 0), 2);
        due("3 letters between", x.splits(110001), 0);
    }

    @Sentence(in = "Terms", says = "words 1 to 8.")
    static void words_have_1_to_8_letters() {
        PartSplitter x = new PartSplitter();
        x.addPart(10, 1, 7);
        dueThrow("0 letters", ARGUMENT, () -> x.splits(1));
        int word = 1;
        for (int letters = 1; letters <= 8; letters++) {
            word *= 10;
            due(letters + " letters", x.size(word, 0), letters);
        }
        dueThrow("9 letters", ARGUMENT, () -> x.splits(1000000000));
    }

    // ---- the lexicon

    @Sentence(in = "Terms", says = "There can be 16 parts, numbered from 0")
    static void parts_can_be_16() {
        PartSplitter x = new PartSplitter();
        for (int part = 0; part < 16; part++) {
            due("number", x.addPart(100 + part, 1, 7), part);
            due("its letters", x.head(100 + part), part);
        }
        dueThrow("a 17th part", STATE, () -> x.addPart(116, 1, 7));
        due("its letters", x.find(116), NONE);
    }

    @Sentence(in = "Terms", says = "each with its letters, which no two parts share")
    static void parts_share_no_letters() {
        PartSplitter x = new PartSplitter();
        int[] texts = {10, 100, 1000, 10000, 11, 101, 110, 1001};
        for (int part = 0; part < texts.length; part++) {
            due("zeros ahead tell texts apart", x.addPart(texts[part], 1, 7), part);
        }
        for (int text : texts) {
            dueThrow("again " + text, STATE, () -> x.addPart(text, 2, 7));
        }
        due("a link may share them", x.addLink(10), 0);
    }

    @Sentence(in = "Terms", says = "a count, 1 to 9999")
    static void counts_are_1_to_9999() {
        PartSplitter x = new PartSplitter();
        x.addPart(11, 1, 7);
        x.addPart(12, 9999, 7);
        dueThrow("0", ARGUMENT, () -> x.addPart(13, 0, 7));
        dueThrow("10000", ARGUMENT, () -> x.addPart(13, 10000, 7));
        due("least", x.count(0), 1);
        due("most", x.count(1), 9999);
        x.learn(12);
        due("no more than 9999", x.count(1), 9999);
        x.forget();
        due("still 9999", x.count(1), 9999);
    }

    @Sentence(in = "Terms", says = "1 it may be the first part of a split")
    static void flag_1_is_for_the_first_part() {
        PartSplitter x = twoParts();
        for (int flags = 0; flags <= 7; flags++) {
            x.setFlags(0, flags);
            due("flags " + flags, x.splits(112), flags % 2);
        }
    }

    @Sentence(in = "Terms", says = "2 it may be in the middle")
    static void flag_2_is_for_the_middle() {
        PartSplitter x = twoParts();
        for (int flags = 0; flags <= 7; flags++) {
            x.setFlags(0, flags);
            due("flags " + flags, x.splits(1212), flags / 2 % 2);
            due("two in the middle with flags " + flags, x.splits(12112), flags / 2 % 2);
        }
    }

    @Sentence(in = "Terms", says = "4 it may be the last part, added.")
    static void flag_4_is_for_the_last_part() {
        PartSplitter x = twoParts();
        for (int flags = 0; flags <= 7; flags++) {
            x.setFlags(0, flags);
            due("flags " + flags, x.splits(121), flags / 4);
        }
    }

    @Sentence(in = "Terms", says = "A part that is alone in a split must have the flags 1 and 4.")
    static void part_alone_has_flags_1_and_4() {
        PartSplitter x = twoParts();
        for (int flags = 0; flags <= 7; flags++) {
            x.setFlags(0, flags);
            due("flags " + flags, x.splits(11), flags == 5 || flags == 7 ? 1 : 0);
        }
    }

    // ---- links, vetoes and bars

    @Sentence(in = "Terms", says = "There can be 6, numbered from 0, each with its letters.")
    static void links_can_be_6() {
        PartSplitter x = new PartSplitter();
        x.addPart(11, 1, 7);
        for (int link = 0; link < 6; link++) {
            due("number", x.addLink(12 + link), link);
            due("its letters", x.partAt(1121 + 10 * link, 0, 0), 1 + link);
        }
        dueThrow("a 7th link", STATE, () -> x.addLink(18));
        due("its letters", x.splits(1181), 0);
    }

    @Sentence(in = "Terms", says = "Between two parts that follow each other in a split there is either nothing or one link.")
    static void between_two_parts_is_nothing_or_one_link() {
        PartSplitter x = new PartSplitter();
        x.addPart(11, 1, 7);
        x.addLink(12);
        x.addLink(13);
        due("nothing", x.partAt(111, 0, 0), 0);
        due("one link", x.partAt(1121, 0, 0), 1);
        due("the same link twice", x.splits(11221), 0);
        due("two links", x.splits(11231), 0);
        due("a link ahead of the first part", x.splits(121), 0);
        due("a link behind the last part", x.splits(112), 0);
        due("a link alone", x.splits(12), 0);
        due("a link between each two", x.splits(11213121), 1);
    }

    @Sentence(in = "Terms", says = "A veto says that a part may not be followed by another one (in this order, whatever is between them)")
    static void veto_holds_in_its_order_whatever_is_between() {
        PartSplitter x = twoParts();
        x.addLink(13);
        x.addLink(134);
        x.veto(0, 1, true);
        due("nothing between", x.splits(112), 0);
        due("a link between", x.splits(1132), 0);
        due("a link of 2 letters between", x.splits(11342), 0);
        due("behind another part", x.splits(12112), 0);
        due("the other order", x.splits(121), 1);
        due("the other order with a link", x.splits(1231), 1);
        due("a part between", x.splits(1112), 0);
        x.addPart(15, 1, 7);
        due("another part between", x.splits(1152), 1);
    }

    @Sentence(in = "Terms", says = "a bar says that a link may not stand behind a part.")
    static void bar_holds_behind_its_part() {
        PartSplitter x = twoParts();
        x.addLink(13);
        x.addLink(14);
        x.bar(0, 0, true);
        due("behind the part", x.splits(1132), 0);
        due("behind the part, ahead of itself", x.splits(1131), 0);
        due("ahead of the part", x.splits(1231), 1);
        due("another link", x.splits(1142), 1);
        due("nothing", x.splits(112), 1);
        due("behind a part behind it", x.splits(11231), 1);
    }

    // ---- splits

    @Sentence(in = "Terms", says = "A split of a word is a row of parts, with nothing or a link between any two that follow each other, whose letters one behind the other are the word")
    static void split_is_the_whole_word() {
        PartSplitter x = twoParts();
        due("the word", x.splits(112), 1);
        due("its first letter", x.partAt(112, 0, 0), 0);
        due("its second letter", x.partAt(112, 0, 1), 10);
        due("a letter more behind", x.splits(1123), 0);
        due("a letter more ahead", x.splits(1312), 0);
        due("a letter more between", x.splits(1132), 0);
        due("the beginning of a part", x.addPart(1456, 1, 7) + x.splits(145), 2);
        due("the end of a part", x.splits(156), 0);
    }

    @Sentence(in = "Terms", says = "flags, vetoes and bars allow it.")
    static void split_is_allowed_by_all_three() {
        PartSplitter x = twoParts();
        x.addLink(13);
        due("all allow it", x.splits(1132), 1);
        x.setFlags(1, 3);
        due("the flags do not", x.splits(1132), 0);
        x.setFlags(1, 4);
        x.veto(0, 1, true);
        due("a veto does not", x.splits(1132), 0);
        x.veto(0, 1, false);
        x.bar(0, 0, true);
        due("a bar does not", x.splits(1132), 0);
        x.bar(0, 0, false);
        due("all allow it again", x.splits(1132), 1);
    }

    @Sentence(in = "Terms", says = "Two splits are the same only if they have the same parts and the same links at the same places.")
    static void splits_that_differ_in_a_place_are_two() {
        PartSplitter x = new PartSplitter();
        x.addPart(11, 1, 7);
        x.addLink(11);
        due("no link, or one of its letters", x.splits(1111), 2);
        due("the same link at two places", x.splits(11111), 3);
        due("the same number of parts and links", x.cost(11111, 0), x.cost(11111, 1));
        PartSplitter y = new PartSplitter();
        y.addPart(11, 1, 7);
        y.addPart(122, 1, 7);
        y.addPart(12, 1, 7);
        y.addLink(12);
        y.addLink(122);
        due("1 2 22, 1 22 2, 1 2 2 2, and with a link 1 -2- 22, 1 -22- 2, 1 -2- 2 2, 1 2 -2- 2", y.splits(11222), 7);
    }

    // ---- costs

    @Sentence(in = "Terms", says = "The cost of a part is 10 for each time that its count can be doubled without being above 10000, and 10 more")
    static void cost_of_counts_down_to_1() {
        dueCosts(1, 140, 2, 130, 3, 120, 4, 120, 5, 110, 9, 110, 10, 100, 19, 100, 20, 90, 39, 90, 40, 80, 78, 80);
        dueCosts(79, 70, 156, 70, 157, 60, 312, 60, 313, 50, 625, 50, 626, 40, 1250, 40, 1251, 30);
    }

    @Sentence(in = "Terms", says = "(so that a count of 5001 or more costs 10, one of 2501 to 5000 costs 20, and so on)")
    static void cost_of_counts_at_5001_and_2501() {
        dueCosts(9999, 10, 5002, 10, 5001, 10, 5000, 20, 4999, 20, 2502, 20, 2501, 20, 2500, 30, 2499, 30);
    }

    @Sentence(in = "Terms", says = "The cost of a split is the costs of its parts, 3 for each link, and 15 for each part behind the first one, added.")
    static void cost_of_split_with_links_and_parts() {
        PartSplitter x = new PartSplitter();
        x.addPart(11, 5001, 7);
        x.addPart(12, 2501, 7);
        x.addLink(13);
        due("one part: nothing added", x.cost(11, 0), 10);
        due("two parts", x.cost(112, 0), 10 + 20 + 15);
        due("two parts and a link", x.cost(1132, 0), 10 + 20 + 15 + 3);
        due("three parts and two links", x.cost(113231, 0), 10 + 20 + 10 + 30 + 6);
        due("eight parts", x.cost(122222222, 0), 8 * 20 + 7 * 15);
        due("five parts and three links", x.cost(113131311, 0), 5 * 10 + 4 * 15 + 3 * 3);
    }

    @Sentence(in = "Terms", says = "The cost of a split is the costs of its parts, 3 for each link, and 15 for each part behind the first one, added.")
    static void cost_of_the_dearest_split() {
        PartSplitter x = new PartSplitter();
        x.addPart(11, 1, 7);
        due("eight parts of count 1", x.cost(111111111, 0), 8 * 140 + 7 * 15);
    }

    // ---- the order of splits

    @Sentence(in = "Terms", says = "The order of splits: the lesser cost")
    static void order_by_cost_ahead_of_all() {
        PartSplitter x = new PartSplitter();
        x.addPart(112, 1, 7);
        x.addPart(11, 5001, 7);
        x.addPart(12, 5001, 7);
        due("more parts that cost less", x.size(112, 0), 2);
        due("less", x.cost(112, 0), 35);
        due("one part that costs more", x.size(112, 1), 1);
        due("more", x.cost(112, 1), 140);
    }

    @Sentence(in = "Terms", says = "then fewer parts")
    static void order_by_fewer_parts() {
        PartSplitter x = new PartSplitter();
        x.addPart(112, 5001, 7);
        x.addPart(13, 5001, 7);
        x.addPart(14, 5001, 7);
        x.addPart(15, 5001, 7);
        x.addPart(11, 5001, 7);
        x.addPart(12345, 312, 7);
        due("the same cost", x.cost(112345, 0), x.cost(112345, 1));
        due("fewer parts, with a shorter part first", x.size(112345, 0), 2);
        due("more parts, with a longer part first", x.size(112345, 1), 4);
        PartSplitter y = new PartSplitter();
        y.addPart(11, 5001, 7);
        y.addPart(1111, 312, 7);
        due("the same cost", y.cost(1111, 0), y.cost(1111, 1));
        due("one part", y.size(1111, 0), 1);
        due("three parts", y.size(1111, 1), 3);
    }

    @Sentence(in = "Terms", says = "the longer part;")
    static void order_by_longer_part() {
        PartSplitter x = new PartSplitter();
        x.addPart(11, 5001, 7);
        x.addPart(111, 5001, 7);
        x.addPart(1111, 5001, 7);
        x.addPart(11111, 5001, 7);
        int[] first = {3, 2, 1, 0};
        for (int k = 0; k < first.length; k++) {
            due("the same cost", x.cost(111111, k), 35);
            due("first part of split " + k, x.partAt(111111, k, 0), 10 * first[k]);
        }
    }

    @Sentence(in = "Terms", says = "nothing ahead of a link")
    static void order_of_nothing_ahead_of_a_link() {
        PartSplitter x = new PartSplitter();
        x.addPart(11, 5001, 7);
        x.addLink(11);
        due("the same cost", x.cost(11111, 0), x.cost(11111, 1));
        due("nothing", x.partAt(11111, 0, 0), 0);
        due("and then a link", x.partAt(11111, 0, 1), 1);
        due("a link", x.partAt(11111, 1, 0), 1);
        due("and then nothing", x.partAt(11111, 1, 1), 0);
    }

    @Sentence(in = "Terms", says = "and the link with the lower number.")
    static void order_by_lower_link() {
        PartSplitter x = new PartSplitter();
        PartSplitter y = new PartSplitter();
        x.addLink(155);
        x.addLink(15);
        y.addLink(15);
        y.addLink(155);
        for (PartSplitter each : new PartSplitter[] {x, y}) {
            each.addPart(11, 5001, 7);
            each.addPart(12, 5001, 7);
            each.addPart(152, 5001, 7);
            due("the same cost", each.cost(11552, 0), each.cost(11552, 1));
            due("link 0", each.partAt(11552, 0, 0), 1);
            due("link 1", each.partAt(11552, 1, 0), 2);
        }
        due("behind the longer link", x.head(11552), 1);
        due("behind the shorter link", y.head(11552), 2);
    }

    @Sentence(in = "Terms", says = "and the link with the lower number.")
    static void order_by_lower_link_up_to_the_last_one() {
        for (int low = 0; low < 5; low++) {
            PartSplitter x = new PartSplitter();
            for (int link = 0; link < 6; link++) {
                x.addLink(link == low ? 155 : link == 5 ? 15 : 110 + link);
            }
            x.addPart(11, 5001, 7);
            x.addPart(12, 5001, 7);
            x.addPart(152, 5001, 7);
            due("link " + low, x.partAt(11552, 0, 0), low + 1);
            due("link 5", x.partAt(11552, 1, 0), 6);
        }
    }

    @Sentence(in = "Terms", says = BY_PLACE)
    static void order_by_the_first_place_that_differs() {
        PartSplitter x = new PartSplitter();
        for (int text : new int[] {11, 12, 13, 14, 112, 123, 134}) {
            x.addPart(text, 5001, 7);
        }
        due("two parts of two letters", x.partAt(11234, 0, 0), 40);
        due("three parts: 12 3 4", x.partAt(11234, 1, 0), 40);
        due("three parts: 1 23 4", x.partAt(11234, 2, 1), 50);
        due("three parts: 1 2 34", x.partAt(11234, 3, 2), 60);
        due("four parts", x.size(11234, 4), 4);
        due("no more", x.splits(11234), 5);
    }

    @Sentence(in = "Terms", says = BY_PLACE)
    static void order_by_what_is_behind_a_part_ahead_of_the_next_part() {
        PartSplitter x = new PartSplitter();
        for (int text : new int[] {11, 1234, 167, 15, 13467}) {
            x.addPart(text, 5001, 7);
        }
        x.addLink(15);
        x.addLink(12);
        due("the same cost", x.cost(11523467, 0), x.cost(11523467, 1));
        due("nothing, and a shorter part next", x.partAt(11523467, 0, 1), 32);
        due("a link, and a longer part next", x.partAt(11523467, 1, 1), 10);
    }

    // ---- nesting

    @Sentence(in = "Terms", says = "with n parts there are as many as there are trees of n leaves in an order, in which each inner node has two children.")
    static void nested_readings_of_1_to_8_parts() {
        PartSplitter x = new PartSplitter();
        x.addPart(11, 1, 7);
        int[] trees = {1, 1, 2, 5, 14, 42, 132, 429};
        int word = 1;
        for (int parts = 1; parts <= 8; parts++) {
            word = 10 * word + 1;
            due(parts + " parts", x.readings(word), trees[parts - 1]);
        }
    }

    @Sentence(in = "Terms", says = "The head is the last part.")
    static void head_is_the_last_part() {
        PartSplitter x = twoParts();
        due("of one part", x.head(11), 0);
        due("of two parts", x.head(112), 1);
        due("of two parts in the other order", x.head(121), 0);
        due("of eight parts", x.head(111111112), 1);
    }

    @Sentence(in = "Terms", says = "The constants: `NONE = -1`: None.")
    static void none_is_minus_1() throws Exception {
        due("NONE", PartSplitter.class.getField("NONE").getInt(null), -1);
    }

    // ---- what the tests share

    private static Maker[] makers() {
        return new Maker[] {() -> new PartSplitter(), () -> small(), () -> full(), () -> fifty()};
    }

    private static PartSplitter twoParts() {
        PartSplitter x = new PartSplitter();
        x.addPart(11, 1, 7);
        x.addPart(12, 1, 7);
        return x;
    }

    private static PartSplitter small() {
        PartSplitter x = new PartSplitter();
        x.addPart(11, 5000, 7);
        x.addPart(12, 1, 5);
        x.addPart(112, 9999, 3);
        x.addLink(17);
        x.addLink(178);
        x.veto(0, 1, true);
        x.bar(1, 0, true);
        x.learn(11);
        return x;
    }

    private static PartSplitter full() {
        PartSplitter x = new PartSplitter();
        x.addPart(11, 5000, 7);
        x.addPart(112, 9999, 6);
        for (int part = 2; part < 16; part++) {
            x.addPart(1200 + part, part, part % 7 + 1);
        }
        for (int text : new int[] {17, 178, 11, 12, 13, 14}) {
            x.addLink(text);
        }
        x.veto(15, 15, true);
        x.bar(15, 5, true);
        x.learn(11);
        return x;
    }

    private static PartSplitter fifty() {
        PartSplitter x = new PartSplitter();
        x.addPart(11, 5000, 7);
        x.addPart(12, 9980, 7);
        x.addLink(17);
        for (int i = 0; i < 50; i++) {
            x.learn(i % 2 == 0 ? 11 : 112);
        }
        return x;
    }

    private static PartSplitter afterForget(PartSplitter x) {
        x.forget();
        return x;
    }

    private static PartSplitter mostSplits() {
        PartSplitter x = new PartSplitter();
        x.addPart(11, 1, 7);
        x.addPart(111, 1, 7);
        x.addPart(1111, 1, 7);
        x.addPart(11111, 1, 7);
        x.addLink(11);
        x.addLink(111);
        return x;
    }

    private static void leaves(Maker maker, String what, Class<?> type, Call call) {
        PartSplitter x = maker.make();
        dueThrow(what, type, () -> call.on(x));
        due("what is left by: " + what, picture(x), picture(maker.make()));
    }

    /** All that an object answers, in less than 512 calls with those that made it; they take it apart. */
    private static String picture(PartSplitter x) {
        StringBuilder all = new StringBuilder();
        all.append(x.parts()).append(' ').append(x.learned()).append(' ').append(x.nodes());
        for (int part = 0; part < x.parts(); part++) {
            int number = part;
            all.append('\n').append(x.count(part)).append(' ').append(answerOf(() -> x.costOf(number)));
        }
        for (int word : WORDS) {
            all.append('\n').append(x.find(word)).append(' ').append(x.splits(word)).append(' ');
            all.append(x.cost(word, 0)).append(' ').append(x.partAt(word, 0, 0)).append(' ').append(x.readings(word));
        }
        for (int text : TEXTS) {
            all.append('\n').append(x.find(text));
        }
        all.append('\n').append(answerOf(() -> x.addLink(16))).append(' ').append(answerOf(() -> x.addPart(1177, 1, 7)));
        int learned = x.learned();
        for (int i = 0; i <= learned; i++) {
            all.append(' ').append(answerOf(x::forget));
        }
        addPairs(all, x);
        return all.toString();
    }

    private static void addPairs(StringBuilder all, PartSplitter x) {
        int parts = x.parts();
        for (int part = 0; part < parts; part++) {
            all.append('\n').append(x.count(part)).append(' ').append(x.setFlags(part, 0));
            for (int next = 0; next < parts; next++) {
                all.append(x.veto(part, next, false) ? " v" : " -");
            }
            for (int link = 0; link < 6; link++) {
                int number = part;
                int behind = link;
                all.append(' ').append(answerOf(() -> x.bar(number, behind, false)));
            }
        }
    }

    private static void dueCosts(int... countsAndCosts) {
        PartSplitter x = new PartSplitter();
        for (int i = 0; i < countsAndCosts.length; i += 2) {
            int part = x.addPart(100 + i, countsAndCosts[i], 7);
            due("cost of count " + countsAndCosts[i], x.costOf(part), countsAndCosts[i + 1]);
            due("cost as a split", x.cost(100 + i, 0), countsAndCosts[i + 1]);
        }
    }
}
