import java.util.HashSet;
import java.util.Set;
import java.util.TreeSet;

/** The boundary cases of promises 1 to 11 (parts, links, vetoes), a test for each sentence. */
public final class PartsBoundariesTest extends Sentences {
    private static final int[] NO_TEXTS = {LEAST, -1999999999, -100000000, -10, -1, 0, 1, 2, 9, 20, 29, 90, 99, 200, 999,
        2000, 9999, 20000, 99999, 200000, 999999, 2000000, 9999999, 20000000, 99999999, 200000000, 999999999, 1000000000,
        1410065408, 1999999999, 2000000000, MOST};
    private static final int[] TEXTS_OF_5_TO_8 = {100000, 199999, 1000000, 1999999, 10000000, 19999999, 100000000,
        199999999};

    public static void main(String[] args) throws Exception {
        runAll(PartsBoundariesTest.class, args, "Promise 1", "Promise 2", "Promise 3", "Promise 4", "Promise 5",
            "Promise 6", "Promise 7", "Promise 8", "Promise 9", "Promise 10", "Promise 11");
    }

    // ---- Promise 1: A new object

    @Sentence(in = "Promise 1", says = "No parts")
    static void p01_new_object_has_no_parts() {
        PartSplitter x = new PartSplitter();
        due("parts", x.parts(), 0);
        due("nodes", x.nodes(), 0);
        dueThrow("count of part 0", INDEX, () -> x.count(0));
        for (int letter = 10; letter <= 19; letter++) {
            due("find", x.find(letter), NONE);
            due("splits", x.splits(letter), 0);
        }
        due("its first part", x.addPart(10, 1, 7), 0);
    }

    @Sentence(in = "Promise 1", says = "links")
    static void p01_new_object_has_no_links() {
        PartSplitter x = new PartSplitter();
        x.addPart(11, 1, 7);
        dueThrow("bar of link 0", INDEX, () -> x.bar(0, 0, false));
        for (int letter = 0; letter <= 9; letter++) {
            due("a link between", x.splits(1101 + 10 * letter), letter == 1 ? 1 : 0);
        }
        due("its first link", x.addLink(10), 0);
    }

    @Sentence(in = "Promise 1", says = "vetoes")
    static void p01_new_object_has_no_vetoes() {
        PartSplitter x = sixteenParts();
        for (int pair = 0; pair < 256; pair++) {
            due("veto " + pair, x.veto(pair / 16, pair % 16, false), false);
        }
    }

    @Sentence(in = "Promise 1", says = "bars")
    static void p01_new_object_has_no_bars() {
        PartSplitter x = sixteenParts();
        addSixLinks(x);
        for (int pair = 0; pair < 96; pair++) {
            due("bar " + pair, x.bar(pair / 6, pair % 6, false), false);
        }
    }

    @Sentence(in = "Promise 1", says = "nothing was learned")
    static void p01_new_object_has_learned_nothing() {
        PartSplitter x = new PartSplitter();
        due("learned", x.learned(), 0);
        dueThrow("forget", STATE, x::forget);
        due("learn", x.learn(11), false);
    }

    @Sentence(in = "Promise 1", says = "`PartSplitter()`")
    static void p01_new_object_shares_nothing_with_another() {
        PartSplitter x = sixteenParts();
        addSixLinks(x);
        x.veto(0, 0, true);
        x.bar(0, 0, true);
        x.setFlags(0, 0);
        x.learn(101);
        PartSplitter y = new PartSplitter();
        due("parts", y.parts(), 0);
        due("learned", y.learned(), 0);
        due("addPart", y.addPart(100, 1, 7), 0);
        due("addLink", y.addLink(11), 0);
        due("veto", y.veto(0, 0, false), false);
        due("bar", y.bar(0, 0, false), false);
        due("16 parts stay", x.parts(), 16);
        due("1 word stays", x.learned(), 1);
    }

    // ---- Promise 2: addPart

    @Sentence(in = "Promise 2", says = "Adds a part.")
    static void p02_addPart_adds_a_part() {
        PartSplitter x = new PartSplitter();
        x.addPart(112, 34, 5);
        due("parts", x.parts(), 1);
        due("its letters", x.find(112), 0);
        due("its count", x.count(0), 34);
        due("its flags", x.setFlags(0, 5), 5);
        due("its split", x.splits(112), 1);
        x.addPart(13, 56, 2);
        due("parts", x.parts(), 2);
        due("the first one's letters", x.find(112), 0);
        due("the first one's count", x.count(0), 34);
        due("the first one's flags", x.setFlags(0, 5), 5);
    }

    @Sentence(in = "Promise 2", says = "`text`: its letters, 1 to 4")
    static void p02_text_of_1_to_4_letters() {
        int[] texts = {10, 19, 100, 199, 1000, 1999, 10000, 19999};
        PartSplitter x = new PartSplitter();
        for (int part = 0; part < texts.length; part++) {
            due("addPart " + texts[part], x.addPart(texts[part], 1, 7), part);
            due("find", x.find(texts[part]), part);
            due("head", x.head(texts[part]), part);
        }
    }

    @Sentence(in = "Promise 2", says = "`count`: 1 to 9999")
    static void p02_count_of_1_to_9999() {
        int[] counts = {1, 2, 5000, 9998, 9999};
        PartSplitter x = new PartSplitter();
        for (int part = 0; part < counts.length; part++) {
            due("addPart with count " + counts[part], x.addPart(10 + part, counts[part], 7), part);
            due("count", x.count(part), counts[part]);
        }
    }

    @Sentence(in = "Promise 2", says = "`flags`: 1 to 7")
    static void p02_flags_of_1_to_7() {
        PartSplitter x = new PartSplitter();
        for (int flags = 1; flags <= 7; flags++) {
            due("addPart with flags " + flags, x.addPart(10 + flags, 1, flags), flags - 1);
            due("flags", x.setFlags(flags - 1, 0), flags);
        }
    }

    @Sentence(in = "Promise 2", says = "Returns its number.")
    static void p02_returns_0_to_15() {
        PartSplitter x = new PartSplitter();
        for (int part = 0; part < 16; part++) {
            dueThrow("a refused call", ARGUMENT, () -> x.addPart(100, 0, 7));
            due("number", x.addPart(100 + part, 1, 7), part);
            dueThrow("another refused call", STATE, () -> x.addPart(100, 1, 7));
        }
    }

    @Sentence(in = "Promise 2", says = "if text is no text of so many letters")
    static void p02_refuses_text() {
        PartSplitter x = new PartSplitter();
        for (int text : NO_TEXTS) {
            dueThrow("addPart " + text, ARGUMENT, () -> x.addPart(text, 1, 7));
        }
        for (int text : TEXTS_OF_5_TO_8) {
            dueThrow("addPart " + text, ARGUMENT, () -> x.addPart(text, 1, 7));
        }
        due("parts", x.parts(), 0);
    }

    @Sentence(in = "Promise 2", says = "or count or flags is out of range")
    static void p02_refuses_count() {
        PartSplitter x = new PartSplitter();
        for (int count : new int[] {LEAST, -9999, -1, 0, 10000, 65537, MOST}) {
            dueThrow("addPart with count " + count, ARGUMENT, () -> x.addPart(10, count, 7));
        }
        due("parts", x.parts(), 0);
    }

    @Sentence(in = "Promise 2", says = "or count or flags is out of range")
    static void p02_refuses_flags() {
        PartSplitter x = new PartSplitter();
        for (int flags : new int[] {LEAST, LEAST + 7, -8, -1, 0, 8, 9, 15, 16, 257, MOST}) {
            dueThrow("addPart with flags " + flags, ARGUMENT, () -> x.addPart(10, 1, flags));
        }
        due("parts", x.parts(), 0);
    }

    @Sentence(in = "Promise 2", says = "if there are 16 parts")
    static void p02_refuses_a_17th_part() {
        PartSplitter x = new PartSplitter();
        for (int part = 0; part < 15; part++) {
            x.addPart(100 + part, 1, 7);
        }
        due("the 16th part", x.addPart(115, 1, 7), 15);
        dueThrow("a 17th part", STATE, () -> x.addPart(116, 1, 7));
        x.setFlags(0, 0);
        dueThrow("a 17th part, when one has no flags", STATE, () -> x.addPart(116, 1, 7));
        due("parts", x.parts(), 16);
    }

    @Sentence(in = "Promise 2", says = "or there is one with these letters")
    static void p02_refuses_the_same_letters() {
        PartSplitter x = new PartSplitter();
        x.addLink(11);
        due("a link's letters", x.addPart(11, 1, 7), 0);
        dueThrow("a part's letters", STATE, () -> x.addPart(11, 2, 6));
        x.setFlags(0, 0);
        dueThrow("a part's letters, when it has no flags", STATE, () -> x.addPart(11, 2, 6));
        due("a zero ahead of the letters", x.addPart(101, 1, 7), 1);
        due("a zero behind the letters", x.addPart(110, 1, 7), 2);
        for (int part = 3; part < 16; part++) {
            x.addPart(150 + part, 1, 7);
            int text = 150 + part;
            dueThrow("the newest part's letters", STATE, () -> x.addPart(text, 1, 7));
        }
        dueThrow("the first part's letters", STATE, () -> x.addPart(11, 1, 7));
    }

    // ---- Promise 3: setFlags

    @Sentence(in = "Promise 3", says = "Changes the flags of a part.")
    static void p03_setFlags_changes_one_part() {
        PartSplitter x = sixteenParts();
        x.setFlags(7, 2);
        due("the part ahead of it", x.setFlags(6, 7), 7);
        due("the part itself", x.setFlags(7, 7), 2);
        due("the part behind it", x.setFlags(8, 7), 7);
        due("the count stays", x.count(7), 8);
    }

    @Sentence(in = "Promise 3", says = "`part`: a part")
    static void p03_part_0_to_15() {
        PartSplitter x = sixteenParts();
        for (int part = 0; part < 16; part++) {
            due("flags of part " + part, x.setFlags(part, part % 8), 7);
        }
        for (int part = 0; part < 16; part++) {
            due("flags of part " + part, x.setFlags(part, 7), part % 8);
        }
    }

    @Sentence(in = "Promise 3", says = "`flags`: 0 to 7")
    static void p03_flags_of_0_to_7() {
        PartSplitter x = onePart();
        for (int flags = 0; flags <= 7; flags++) {
            x.setFlags(0, flags);
            due("flags", x.setFlags(0, flags), flags);
        }
        x.setFlags(0, 0);
        due("no flags: in no split", x.splits(11) + x.splits(111) + x.splits(1111), 0);
        due("no flags: still a part", x.parts() + x.find(11), 1);
    }

    @Sentence(in = "Promise 3", says = "Returns the flags before.")
    static void p03_returns_the_flags_before() {
        PartSplitter x = new PartSplitter();
        for (int flags = 1; flags <= 7; flags++) {
            x.addPart(10 + flags, 1, flags);
            due("the flags of addPart", x.setFlags(flags - 1, 7 - flags), flags);
            due("the flags of setFlags", x.setFlags(flags - 1, 0), 7 - flags);
        }
        x.setFlags(0, 5);
        dueThrow("a refused call", ARGUMENT, () -> x.setFlags(0, 8));
        due("the flags ahead of it", x.setFlags(0, 1), 5);
    }

    @Sentence(in = "Promise 3", says = "if there is no such part")
    static void p03_refuses_part() {
        dueNoPart((x, part) -> x.setFlags(part, 7));
    }

    @Sentence(in = "Promise 3", says = "if flags is out of range")
    static void p03_refuses_flags() {
        PartSplitter x = sixteenParts();
        for (int flags : new int[] {LEAST, LEAST + 7, -8, -1, 8, 9, 15, 256, MOST}) {
            dueThrow("flags " + flags + " of part 0", ARGUMENT, () -> x.setFlags(0, flags));
            dueThrow("flags " + flags + " of part 15", ARGUMENT, () -> x.setFlags(15, flags));
        }
    }

    // ---- Promise 4: addLink

    @Sentence(in = "Promise 4", says = "Adds a link.")
    static void p04_addLink_adds_a_link() {
        PartSplitter x = onePart();
        due("ahead of it", x.splits(1121), 0);
        x.addLink(12);
        due("behind it", x.splits(1121), 1);
        due("no part", x.parts(), 1);
        due("no part with its letters", x.find(12), NONE);
        due("not barred", x.bar(0, 0, false), false);
    }

    @Sentence(in = "Promise 4", says = "`text`: its letters, 1 or 2")
    static void p04_text_of_1_or_2_letters() {
        PartSplitter x = onePart();
        due("0", x.addLink(10), 0);
        due("9", x.addLink(19), 1);
        due("00", x.addLink(100), 2);
        due("99", x.addLink(199), 3);
        due("0 between", x.partAt(1101, 0, 0), 1);
        due("9 between", x.partAt(1191, 0, 0), 2);
        due("00 between", x.partAt(11001, 0, 0), 3);
        due("99 between", x.partAt(11991, 0, 0), 4);
    }

    @Sentence(in = "Promise 4", says = "Returns its number.")
    static void p04_returns_0_to_5() {
        PartSplitter x = onePart();
        for (int link = 0; link < 6; link++) {
            dueThrow("a refused call", ARGUMENT, () -> x.addLink(1000));
            due("number", x.addLink(12 + link), link);
            dueThrow("another refused call", STATE, () -> x.addLink(12));
        }
    }

    @Sentence(in = "Promise 4", says = "if text is no text of so many letters")
    static void p04_refuses_text() {
        PartSplitter x = onePart();
        for (int text : NO_TEXTS) {
            dueThrow("addLink " + text, ARGUMENT, () -> x.addLink(text));
        }
        for (int text : new int[] {1000, 1999, 10000, 19999, 100000, 1000000, 10000000, 100000000, 199999999}) {
            dueThrow("addLink " + text, ARGUMENT, () -> x.addLink(text));
        }
        dueThrow("link 0", INDEX, () -> x.bar(0, 0, true));
    }

    @Sentence(in = "Promise 4", says = "if there are 6 links")
    static void p04_refuses_a_7th_link() {
        PartSplitter x = onePart();
        for (int link = 0; link < 5; link++) {
            x.addLink(12 + link);
        }
        due("the 6th link", x.addLink(17), 5);
        dueThrow("a 7th link", STATE, () -> x.addLink(18));
        due("its letters", x.splits(1181), 0);
        dueThrow("link 6", INDEX, () -> x.bar(0, 6, true));
    }

    @Sentence(in = "Promise 4", says = "or there is one with these letters")
    static void p04_refuses_the_same_letters() {
        PartSplitter x = onePart();
        due("a part's letters", x.addLink(11), 0);
        dueThrow("a link's letters", STATE, () -> x.addLink(11));
        due("a zero ahead of the letters", x.addLink(101), 1);
        due("a zero behind the letters", x.addLink(110), 2);
        for (int text : new int[] {12, 13, 14}) {
            x.addLink(text);
            dueThrow("the newest link's letters", STATE, () -> x.addLink(text));
        }
        dueThrow("the first link's letters", STATE, () -> x.addLink(11));
    }

    // ---- Promise 5: veto

    @Sentence(in = "Promise 5", says = "Sets or takes away a veto.")
    static void p05_veto_is_set_and_taken_away() {
        PartSplitter x = sixteenParts();
        int[] ends = {0, 1, 14, 15};
        for (int part : ends) {
            for (int next : ends) {
                int word = 10000 + 100 * part + next;
                due("without " + part + " " + next, x.splits(word), 1);
                x.veto(part, next, true);
                due("with " + part + " " + next, x.splits(word), 0);
                x.veto(part, next, false);
                due("taken away " + part + " " + next, x.splits(word), 1);
            }
        }
    }

    @Sentence(in = "Promise 5", says = "`part`: a part")
    static void p05_part_0_to_15() {
        PartSplitter x = sixteenParts();
        for (int part = 0; part < 16; part++) {
            due("veto", x.veto(part, 15 - part, true), false);
        }
        for (int pair = 0; pair < 256; pair++) {
            due("veto " + pair, x.veto(pair / 16, pair % 16, false), pair / 16 + pair % 16 == 15);
        }
    }

    @Sentence(in = "Promise 5", says = "`next`: a part, which may be the same one")
    static void p05_next_may_be_the_same_part() {
        PartSplitter x = sixteenParts();
        for (int part = 0; part < 16; part++) {
            due("was", x.veto(part, part, true), false);
            due("twice the part", x.splits(10000 + 101 * part), 0);
            due("the part alone", x.splits(100 + part), 1);
            due("is", x.veto(part, part, true), true);
        }
        due("two parts", x.splits(10001), 1);
    }

    @Sentence(in = "Promise 5", says = "`isVeto`: whether there is one")
    static void p05_isVeto() {
        PartSplitter x = onePart();
        x.veto(0, 0, true);
        due("true", x.splits(111), 0);
        x.veto(0, 0, true);
        due("true again", x.splits(111), 0);
        x.veto(0, 0, false);
        due("false", x.splits(111), 1);
        x.veto(0, 0, false);
        due("false again", x.splits(111), 1);
    }

    @Sentence(in = "Promise 5", says = "Returns whether there was one.")
    static void p05_returns_whether_there_was_one() {
        PartSplitter x = onePart();
        x.addPart(12, 1, 7);
        due("none, taken away", x.veto(0, 1, false), false);
        due("none, set", x.veto(0, 1, true), false);
        due("one, set", x.veto(0, 1, true), true);
        due("one, taken away", x.veto(0, 1, false), true);
        due("none, taken away", x.veto(0, 1, false), false);
        x.veto(0, 1, true);
        due("none in the other order", x.veto(1, 0, true), false);
    }

    @Sentence(in = "Promise 5", says = "if there is no such part, of either")
    static void p05_refuses_part() {
        dueNoPart((x, part) -> x.veto(part, 0, true));
    }

    @Sentence(in = "Promise 5", says = "if there is no such part, of either")
    static void p05_refuses_next() {
        dueNoPart((x, next) -> x.veto(0, next, true));
    }

    @Sentence(in = "Promise 5", says = "if there is no such part, of either")
    static void p05_refuses_both() {
        dueNoPart((x, part) -> x.veto(part, part, true));
    }

    // ---- Promise 6: bar

    @Sentence(in = "Promise 6", says = "Sets or takes away a bar.")
    static void p06_bar_is_set_and_taken_away() {
        PartSplitter x = sixteenParts();
        addSixLinks(x);
        for (int part : new int[] {0, 15}) {
            for (int link : new int[] {0, 5}) {
                int word = 1000000 + 10000 * part + 2000 + 100 * link;
                due("without", x.splits(word), 1);
                x.bar(part, link, true);
                due("with", x.splits(word), 0);
                x.bar(part, link, false);
                due("taken away", x.splits(word), 1);
            }
        }
    }

    @Sentence(in = "Promise 6", says = "`part`: a part")
    static void p06_part_0_to_15() {
        PartSplitter x = sixteenParts();
        addSixLinks(x);
        for (int part = 0; part < 16; part++) {
            due("bar", x.bar(part, part % 6, true), false);
        }
        for (int pair = 0; pair < 96; pair++) {
            due("bar " + pair, x.bar(pair / 6, pair % 6, false), pair / 6 % 6 == pair % 6);
        }
    }

    @Sentence(in = "Promise 6", says = "`link`: a link")
    static void p06_link_0_to_5() {
        PartSplitter x = sixteenParts();
        for (int link = 0; link < 6; link++) {
            x.addLink(120 + link);
            due("the newest link", x.bar(15, link, true), false);
        }
        for (int link = 0; link < 6; link++) {
            due("each link", x.bar(15, link, false), true);
        }
    }

    @Sentence(in = "Promise 6", says = "`isBar`: whether there is one")
    static void p06_isBar() {
        PartSplitter x = onePart();
        x.addLink(12);
        x.bar(0, 0, true);
        due("true", x.splits(1121), 0);
        x.bar(0, 0, true);
        due("true again", x.splits(1121), 0);
        x.bar(0, 0, false);
        due("false", x.splits(1121), 1);
        x.bar(0, 0, false);
        due("false again", x.splits(1121), 1);
    }

    @Sentence(in = "Promise 6", says = "Returns whether there was one.")
    static void p06_returns_whether_there_was_one() {
        PartSplitter x = onePart();
        x.addPart(12, 1, 7);
        x.addLink(13);
        x.addLink(14);
        due("none, taken away", x.bar(0, 1, false), false);
        due("none, set", x.bar(0, 1, true), false);
        due("one, set", x.bar(0, 1, true), true);
        due("one, taken away", x.bar(0, 1, false), true);
        due("none, taken away", x.bar(0, 1, false), false);
        x.bar(0, 1, true);
        due("none of the other part and link", x.bar(1, 0, true), false);
    }

    @Sentence(in = "Promise 6", says = "if there is no such part or link")
    static void p06_refuses_part() {
        PartSplitter x = new PartSplitter();
        x.addLink(11);
        dueThrow("a link, no part", INDEX, () -> x.bar(0, 0, true));
        PartSplitter y = sixteenParts();
        addSixLinks(y);
        for (int part : new int[] {LEAST, -16, -1, 16, 17, 1 << 28, MOST}) {
            dueThrow("part " + part, INDEX, () -> y.bar(part, 0, true));
            dueThrow("part " + part + " with link 5", INDEX, () -> y.bar(part, 5, true));
        }
    }

    @Sentence(in = "Promise 6", says = "if there is no such part or link")
    static void p06_refuses_link() {
        PartSplitter x = sixteenParts();
        for (int link = 0; link <= 6; link++) {
            for (int no : new int[] {LEAST, -6, -1, link, 6, 7, 1 << 28, MOST}) {
                dueThrow("link " + no + " of " + link, INDEX, () -> x.bar(0, no, true));
                dueThrow("link " + no + " of " + link + " with part 15", INDEX, () -> x.bar(15, no, true));
            }
            if (link < 6) {
                x.addLink(120 + link);
            }
        }
    }

    // ---- Promise 7: parts

    @Sentence(in = "Promise 7", says = "Returns the number of parts.")
    static void p07_parts_from_0_to_16() {
        PartSplitter x = new PartSplitter();
        for (int part = 0; part < 16; part++) {
            due("parts", x.parts(), part);
            x.addPart(100 + part, 1, 7);
        }
        due("parts", x.parts(), 16);
        dueThrow("a 17th part", STATE, () -> x.addPart(116, 1, 7));
        due("parts after it was refused", x.parts(), 16);
    }

    // ---- Promise 8: count

    @Sentence(in = "Promise 8", says = "Returns the count of a part.")
    static void p08_count_after_learning() {
        PartSplitter x = new PartSplitter();
        x.addPart(11, 9998, 7);
        due("ahead of learning", x.count(0), 9998);
        x.learn(111);
        due("no more than 9999", x.count(0), 9999);
        x.forget();
        due("forgotten", x.count(0), 9998);
    }

    @Sentence(in = "Promise 8", says = "`part`: a part")
    static void p08_part_0_to_15() {
        PartSplitter x = sixteenParts();
        for (int part = 0; part < 16; part++) {
            due("count", x.count(part), part + 1);
        }
    }

    @Sentence(in = "Promise 8", says = "Returns the count.")
    static void p08_returns_1_to_9999() {
        PartSplitter x = new PartSplitter();
        x.addPart(11, 1, 7);
        x.addPart(12, 9999, 7);
        due("least", x.count(0), 1);
        due("most", x.count(1), 9999);
        x.setFlags(0, 0);
        due("without flags", x.count(0), 1);
    }

    @Sentence(in = "Promise 8", says = "if there is no such part")
    static void p08_refuses_part() {
        dueNoPart((x, part) -> x.count(part));
    }

    // ---- Promise 9: costOf

    @Sentence(in = "Promise 9", says = "Returns the cost of a part.")
    static void p09_cost_follows_the_count() {
        PartSplitter x = new PartSplitter();
        x.addPart(11, 5000, 7);
        due("ahead of learning", x.costOf(0), 20);
        x.learn(11);
        due("learned", x.costOf(0), 10);
        x.forget();
        due("forgotten", x.costOf(0), 20);
    }

    @Sentence(in = "Promise 9", says = "`part`: a part")
    static void p09_part_0_to_15() {
        PartSplitter x = sixteenParts();
        int[] costs = {140, 130, 120, 120, 110, 110, 110, 110, 110, 100, 100, 100, 100, 100, 100, 100};
        for (int part = 0; part < 16; part++) {
            due("cost of count " + (part + 1), x.costOf(part), costs[part]);
        }
    }

    @Sentence(in = "Promise 9", says = "Returns the cost.")
    static void p09_returns_10_to_140() {
        int[] counts = {1, 2, 2500, 2501, 5000, 5001, 9999};
        int[] costs = {140, 130, 30, 20, 20, 10, 10};
        PartSplitter x = new PartSplitter();
        for (int part = 0; part < counts.length; part++) {
            x.addPart(10 + part, counts[part], 7);
            due("cost of count " + counts[part], x.costOf(part), costs[part]);
        }
    }

    @Sentence(in = "Promise 9", says = "if there is no such part")
    static void p09_refuses_part() {
        dueNoPart((x, part) -> x.costOf(part));
    }

    // ---- Promise 10: find

    @Sentence(in = "Promise 10", says = "Returns the part with some letters.")
    static void p10_finds_all_16_parts() {
        PartSplitter x = sixteenParts();
        for (int part = 0; part < 16; part++) {
            due("find", x.find(100 + part), part);
        }
        x.setFlags(15, 0);
        due("without flags", x.find(115), 15);
    }

    @Sentence(in = "Promise 10", says = "`text`: a text of 1 to 8 letters")
    static void p10_text_of_1_to_8_letters() {
        PartSplitter x = new PartSplitter();
        x.addPart(10, 1, 7);
        x.addPart(19999, 1, 7);
        due("1 letter", x.find(10), 0);
        due("1 letter", x.find(19), NONE);
        due("4 letters", x.find(19999), 1);
        for (int text : TEXTS_OF_5_TO_8) {
            due("find " + text, x.find(text), NONE);
        }
    }

    @Sentence(in = "Promise 10", says = "NONE if there is none.")
    static void p10_returns_NONE() {
        PartSplitter x = new PartSplitter();
        due("without parts", x.find(11), NONE);
        x.addPart(1123, 1, 7);
        x.addLink(14);
        due("a beginning", x.find(112), NONE);
        due("an end", x.find(123), NONE);
        due("a letter more", x.find(11234), NONE);
        due("a zero ahead", x.find(10123), NONE);
        due("twice the letters", x.find(1123123), NONE);
        due("a link", x.find(14), NONE);
    }

    @Sentence(in = "Promise 10", says = "if text is no such text")
    static void p10_refuses_text() {
        PartSplitter x = onePart();
        for (int text : NO_TEXTS) {
            dueThrow("find " + text, ARGUMENT, () -> x.find(text));
        }
    }

    // ---- Promise 11: nodes

    @Sentence(in = "Promise 11", says = "0 without parts.")
    static void p11_no_nodes_without_parts() {
        PartSplitter x = new PartSplitter();
        due("a new object", x.nodes(), 0);
        x.addLink(11);
        due("links are no parts", x.nodes(), 0);
        dueThrow("a refused part", ARGUMENT, () -> x.addPart(11, 0, 7));
        due("nor is a refused one", x.nodes(), 0);
    }

    @Sentence(in = "Promise 11", says = "of all texts of parts")
    static void p11_nodes_of_parts_without_flags() {
        PartSplitter x = onePart();
        x.addPart(1234, 1, 2);
        due("2 and 234", x.nodes(), 4);
        x.setFlags(0, 0);
        x.setFlags(1, 0);
        due("without flags", x.nodes(), 4);
    }

    @Sentence(in = "Promise 11", says = "(the empty beginning is a beginning, the whole text too, and nothing can follow as well)")
    static void p11_nodes_of_the_empty_beginning_and_the_whole_text() {
        int[] texts = {11, 112, 1123, 11234};
        for (int letters = 1; letters <= 4; letters++) {
            PartSplitter x = new PartSplitter();
            x.addPart(texts[letters - 1], 1, 7);
            due("a text of " + letters + " letters", x.nodes(), letters + 1);
        }
    }

    @Sentence(in = "Promise 11", says = "(the empty beginning is a beginning, the whole text too, and nothing can follow as well)")
    static void p11_nodes_where_a_text_goes_on_behind_a_whole_one() {
        PartSplitter x = new PartSplitter();
        x.addPart(11, 1, 7);
        due("1", x.nodes(), 2);
        x.addPart(111, 1, 7);
        due("1 11", x.nodes(), 3);
        x.addPart(1111, 1, 7);
        due("1 11 111", x.nodes(), 4);
        x.addPart(12, 1, 7);
        due("2 1 11 111", x.nodes(), 4);
        x.addPart(122, 1, 7);
        due("2 22 1 11 111", x.nodes(), 5);
    }

    @Sentence(in = "Promise 11", says = "how many different sets there are")
    static void p11_nodes_that_are_followed_alike_count_once() {
        PartSplitter x = new PartSplitter();
        x.addPart(112, 1, 7);
        x.addPart(132, 1, 7);
        due("12 32", x.nodes(), 3);
        x.addPart(1342, 1, 7);
        due("12 32 342", x.nodes(), 4);
        x.addPart(1142, 1, 7);
        due("12 32 342 142", x.nodes(), 4);
        x.addPart(114, 1, 7);
        due("12 32 342 142 14", x.nodes(), 6);
        x.addPart(134, 1, 7);
        due("12 32 342 142 14 34", x.nodes(), 4);
    }

    @Sentence(in = "Promise 11", says = "how many different sets there are")
    static void p11_nodes_that_differ_by_a_letter_or_an_end_count_twice() {
        PartSplitter x = new PartSplitter();
        x.addPart(112, 1, 7);
        x.addPart(133, 1, 7);
        due("12 33: another letter", x.nodes(), 4);
        PartSplitter y = new PartSplitter();
        y.addPart(112, 1, 7);
        y.addPart(132, 1, 7);
        y.addPart(13, 1, 7);
        due("12 32 3: an end", y.nodes(), 4);
    }

    @Sentence(in = "Promise 11", says = "how many different sets there are")
    static void p11_nodes_that_differ_by_any_letter_0_to_9() {
        for (int letter = 0; letter <= 9; letter++) {
            PartSplitter x = new PartSplitter();
            int other = (letter + 1) % 10;
            x.addPart(110 + letter, 1, 7);
            x.addPart(110 + other, 1, 7);
            x.addPart(120 + other, 1, 7);
            due("1 can go on with " + letter + ", 2 cannot", x.nodes(), 4);
            x.addPart(120 + letter, 1, 7);
            due("both can go on with " + letter, x.nodes(), 3);
        }
    }

    @Sentence(in = "Promise 11", says = "that are not empty")
    static void p11_nodes_leave_the_empty_set_out() {
        PartSplitter x = new PartSplitter();
        for (int letter = 0; letter <= 8; letter++) {
            x.addPart(10 + letter, 1, 7);
        }
        due("all letters but one", x.nodes(), 2);
        x.addPart(19, 1, 7);
        due("all letters", x.nodes(), 2);
    }

    @Sentence(in = "Promise 11", says = "how many nodes the least automaton of all texts of parts has")
    static void p11_nodes_of_16_parts() {
        PartSplitter x = new PartSplitter();
        int[] texts = {11212, 11213, 12212, 12213, 1212, 1213, 112, 113, 12, 13, 11312, 12312, 1312, 13333, 1333, 133};
        for (int text : texts) {
            x.addPart(text, 1, 7);
            due("least automaton with " + text, x.nodes(), PlainNodes.of(texts, x.parts()));
        }
        PartSplitter y = sixteenParts();
        due("00 to 15: 0 goes on with all letters, 1 with 0 to 5", y.nodes(), 4);
    }

    /** The words of promise 11, taken one by one: the set behind each beginning, written out. */
    private static final class PlainNodes {
        static int of(int[] numbers, int used) {
            Set<String> texts = new TreeSet<>();
            for (int i = 0; i < used; i++) {
                texts.add(Integer.toString(numbers[i]).substring(1));
            }
            Set<Set<String>> sets = new HashSet<>();
            for (String text : texts) {
                for (int end = 0; end <= text.length(); end++) {
                    sets.add(behind(text.substring(0, end), texts));
                }
            }
            return sets.size();
        }

        private static Set<String> behind(String beginning, Set<String> texts) {
            Set<String> set = new TreeSet<>();
            for (String text : texts) {
                if (text.startsWith(beginning)) {
                    set.add(text.substring(beginning.length()));
                }
            }
            return set;
        }
    }

    // ---- what the tests share

    private interface CallOfPart {
        Object on(PartSplitter x, int part);
    }

    /** A call with a number that is no part's must be refused, with no parts, with one, and with all 16. */
    private static void dueNoPart(CallOfPart call) {
        PartSplitter x = new PartSplitter();
        PartSplitter y = onePart();
        PartSplitter z = sixteenParts();
        for (int part : new int[] {LEAST, LEAST + 1, -17, -16, -1, 16, 17, 256, 1 << 28, MOST}) {
            dueThrow("part " + part + " of none", INDEX, () -> call.on(x, part));
            dueThrow("part " + part + " of 1", INDEX, () -> call.on(y, part));
            dueThrow("part " + part + " of 16", INDEX, () -> call.on(z, part));
        }
        dueThrow("part 0 of none", INDEX, () -> call.on(x, 0));
        dueThrow("part 1 of 1", INDEX, () -> call.on(y, 1));
        dueThrow("part 15 of 1", INDEX, () -> call.on(y, 15));
        due("part 15 of 16", answerOf(() -> call.on(z, 15)).startsWith("java"), false);
    }

    private static PartSplitter onePart() {
        PartSplitter x = new PartSplitter();
        x.addPart(11, 1, 7);
        return x;
    }

    /** The texts 00 to 15, with counts of 1 to 16. */
    private static PartSplitter sixteenParts() {
        PartSplitter x = new PartSplitter();
        for (int part = 0; part < 16; part++) {
            x.addPart(100 + part, part + 1, 7);
        }
        return x;
    }

    /** The texts 20 to 25, which are no part's. */
    private static void addSixLinks(PartSplitter x) {
        for (int link = 0; link < 6; link++) {
            x.addLink(120 + link);
        }
    }
}
