import java.util.concurrent.Callable;

/** Each promise by itself: ordinary inputs, the edges that the document names, and wrong inputs. */
public final class PromisesTest {
    private static final Class<?> ARGUMENT = IllegalArgumentException.class;
    private static final Class<?> STATE = IllegalStateException.class;
    private static final Class<?> INDEX = IndexOutOfBoundsException.class;
    private static final int NONE = PartSplitter.NONE;

    private static int wrong = 0;
    private static int promise = 0;

    public static void main(String[] args) throws Exception {
        newObject();
        addPart();
        setFlags();
        addLink();
        veto();
        bar();
        parts();
        count();
        costOf();
        find();
        nodes();
        splits();
        splitsByFlags();
        cost();
        orderOfSplits();
        size();
        partAt();
        head();
        readings();
        learn();
        learnUpToTheLimit();
        forget();
        learned();
        if (wrong != 0) {
            System.out.println(wrong + " answers are not as due");
            System.exit(1);
        }
    }

    private static void newObject() throws Exception {
        promise = 1;
        PartSplitter x = new PartSplitter();
        due("NONE", NONE, -1);
        due("parts", x.parts(), 0);
        due("nodes", x.nodes(), 0);
        due("learned", x.learned(), 0);
        due("splits", x.splits(10), 0);
        due("find", x.find(10), NONE);
        dueThrow("no part 0", INDEX, () -> x.count(0));
        dueThrow("nothing to forget", STATE, x::forget);
        x.addPart(10, 1, 7);
        x.addLink(11);
        due("no veto", x.veto(0, 0, false), false);
        due("no bar", x.bar(0, 0, false), false);
        PartSplitter other = new PartSplitter();
        due("objects share nothing", other.parts(), 0);
    }

    private static void addPart() throws Exception {
        promise = 2;
        PartSplitter x = new PartSplitter();
        for (int text : new int[] {Integer.MIN_VALUE, -10, -1, 0, 1, 2, 9, 20, 99, 200, 2000, 20000, 100000, 112345,
            1999999999, Integer.MAX_VALUE}) {
            dueThrow("text " + text, ARGUMENT, () -> x.addPart(text, 1, 7));
        }
        for (int count : new int[] {Integer.MIN_VALUE, -1, 0, 10000, Integer.MAX_VALUE}) {
            dueThrow("count " + count, ARGUMENT, () -> x.addPart(10, count, 7));
        }
        for (int flags : new int[] {Integer.MIN_VALUE, -1, 0, 8, Integer.MAX_VALUE}) {
            dueThrow("flags " + flags, ARGUMENT, () -> x.addPart(10, 1, flags));
        }
        due("nothing was added", x.parts(), 0);
        int[] texts = {10, 19, 100, 199, 1000, 1999, 10000, 19999, 11, 12, 13, 14, 15, 16, 17, 18};
        for (int i = 0; i < texts.length; i++) {
            due("number of " + texts[i], x.addPart(texts[i], i % 2 == 0 ? 1 : 9999, i % 7 + 1), i);
            int again = texts[i];
            dueThrow("the same letters " + again, STATE, () -> x.addPart(again, 5, 5));
        }
        for (int i = 0; i < texts.length; i++) {
            due("found " + texts[i], x.find(texts[i]), i);
            due("count of " + texts[i], x.count(i), i % 2 == 0 ? 1 : 9999);
            due("flags of " + texts[i], x.setFlags(i, 7), i % 7 + 1);
        }
        dueThrow("a 17th part", STATE, () -> x.addPart(120, 1, 7));
        dueThrow("a 17th part with bad letters", ARGUMENT, () -> x.addPart(1, 1, 7));
        dueThrow("a 17th part with a bad count", ARGUMENT, () -> x.addPart(120, 0, 7));
        dueThrow("the same letters with bad flags", ARGUMENT, () -> x.addPart(10, 1, 8));
        due("16 parts", x.parts(), 16);
    }

    private static void setFlags() throws Exception {
        promise = 3;
        PartSplitter x = new PartSplitter();
        dueThrow("no part", INDEX, () -> x.setFlags(0, 0));
        x.addPart(10, 1, 5);
        dueThrow("part 1", INDEX, () -> x.setFlags(1, 0));
        dueThrow("part -1", INDEX, () -> x.setFlags(-1, 0));
        dueThrow("part 16", INDEX, () -> x.setFlags(16, 0));
        dueThrow("no part comes first", INDEX, () -> x.setFlags(1, 8));
        dueThrow("flags 8", ARGUMENT, () -> x.setFlags(0, 8));
        dueThrow("flags -1", ARGUMENT, () -> x.setFlags(0, -1));
        due("flags before", x.setFlags(0, 0), 5);
        due("no flags", x.splits(10), 0);
        due("flags 0 before", x.setFlags(0, 7), 0);
        due("all flags", x.splits(10), 1);
        due("flags 7 before", x.setFlags(0, 7), 7);
    }

    private static void addLink() throws Exception {
        promise = 4;
        PartSplitter x = new PartSplitter();
        for (int text : new int[] {Integer.MIN_VALUE, -10, 0, 1, 2, 9, 20, 99, 200, 1000, 1999, Integer.MAX_VALUE}) {
            dueThrow("text " + text, ARGUMENT, () -> x.addLink(text));
        }
        int[] texts = {10, 19, 100, 199, 15, 155};
        for (int i = 0; i < texts.length; i++) {
            due("number of " + texts[i], x.addLink(texts[i]), i);
            int again = texts[i];
            dueThrow("the same letters " + again, STATE, () -> x.addLink(again));
        }
        dueThrow("a 7th link", STATE, () -> x.addLink(11));
        dueThrow("a 7th link with bad letters", ARGUMENT, () -> x.addLink(1));
        x.addPart(11, 1, 7);
        for (int i = 0; i < texts.length; i++) {
            int word = texts[i] < 100 ? 1101 + 10 * (texts[i] - 10) : 11001 + 10 * (texts[i] - 100);
            due("linked " + word, x.partAt(word, 0, 0), i + 1);
        }
        due("a link with a part's letters", x.addPart(10, 1, 7), 1);
    }

    private static void veto() throws Exception {
        promise = 5;
        PartSplitter x = new PartSplitter();
        x.addPart(11, 1, 7);
        x.addPart(12, 1, 7);
        x.addLink(15);
        for (int[] pair : new int[][] {{-1, 0}, {0, -1}, {2, 0}, {0, 2}, {2, 2}, {0, 16}, {16, 0}}) {
            dueThrow("no such part", INDEX, () -> x.veto(pair[0], pair[1], true));
        }
        due("was none", x.veto(0, 1, true), false);
        due("was one", x.veto(0, 1, true), true);
        due("not the other way", x.veto(1, 0, false), false);
        due("forbids with nothing between", x.splits(112), 0);
        due("forbids with a link between", x.splits(1152), 0);
        due("allows the other way", x.splits(121), 1);
        due("allows itself", x.splits(111), 1);
        due("forbids in the middle", x.splits(1112), 0);
        due("taken away", x.veto(0, 1, false), true);
        due("is none", x.veto(0, 1, false), false);
        due("allows", x.splits(112), 1);
        due("of itself", x.veto(1, 1, true), false);
        due("forbids itself", x.splits(122), 0);
        due("not where another part is between", x.splits(1212), 1);
    }

    private static void bar() throws Exception {
        promise = 6;
        PartSplitter x = new PartSplitter();
        x.addPart(11, 1, 7);
        x.addPart(12, 1, 7);
        dueThrow("no link", INDEX, () -> x.bar(0, 0, true));
        x.addLink(15);
        x.addLink(156);
        for (int[] pair : new int[][] {{-1, 0}, {0, -1}, {2, 0}, {0, 2}, {0, 6}, {16, 0}}) {
            dueThrow("no such part or link", INDEX, () -> x.bar(pair[0], pair[1], true));
        }
        due("was none", x.bar(0, 1, true), false);
        due("was one", x.bar(0, 1, true), true);
        due("no other link", x.bar(0, 0, false), false);
        due("no other part", x.bar(1, 1, false), false);
        due("forbids behind the part", x.splits(11562), 0);
        due("allows ahead of the part", x.splits(12561), 1);
        due("allows another link", x.splits(1152), 1);
        due("taken away", x.bar(0, 1, false), true);
        due("allows", x.splits(11562), 1);
    }

    private static void parts() {
        promise = 7;
        PartSplitter x = new PartSplitter();
        for (int i = 0; i < 16; i++) {
            due("parts", x.parts(), i);
            x.addPart(100 + i, 1, 7);
        }
        due("parts", x.parts(), 16);
    }

    private static void count() throws Exception {
        promise = 8;
        PartSplitter x = new PartSplitter();
        dueThrow("no part", INDEX, () -> x.count(0));
        x.addPart(10, 9999, 7);
        x.addPart(11, 1, 7);
        due("count 9999", x.count(0), 9999);
        due("count 1", x.count(1), 1);
        dueThrow("part 2", INDEX, () -> x.count(2));
        dueThrow("part -1", INDEX, () -> x.count(-1));
        dueThrow("part 16", INDEX, () -> x.count(16));
        x.learn(11);
        due("count after learning", x.count(1), 2);
    }

    private static void costOf() throws Exception {
        promise = 9;
        int[] counts = {9999, 5001, 5000, 2501, 2500, 1251, 1250, 626, 625, 313, 312, 2, 1, 4, 3};
        int[] costs = {10, 10, 20, 20, 30, 30, 40, 40, 50, 50, 60, 130, 140, 120, 120};
        PartSplitter x = new PartSplitter();
        dueThrow("no part", INDEX, () -> x.costOf(0));
        for (int i = 0; i < counts.length; i++) {
            x.addPart(100 + i, counts[i], 7);
            due("cost of count " + counts[i], x.costOf(i), costs[i]);
        }
        dueThrow("part 15", INDEX, () -> x.costOf(15));
        dueThrow("part 16", INDEX, () -> x.costOf(16));
        dueThrow("part -1", INDEX, () -> x.costOf(-1));
    }

    private static void find() throws Exception {
        promise = 10;
        PartSplitter x = new PartSplitter();
        x.addPart(1012, 1, 7);
        x.addPart(112, 1, 7);
        due("012", x.find(1012), 0);
        due("12", x.find(112), 1);
        due("a beginning", x.find(101), NONE);
        due("8 letters", x.find(199999999), NONE);
        due("5 letters", x.find(100000), NONE);
        for (int text : new int[] {Integer.MIN_VALUE, -112, -1, 0, 1, 9, 20, 99, 212, 999999999, 200000000, 1000000000,
            1999999999, Integer.MAX_VALUE}) {
            dueThrow("text " + text, ARGUMENT, () -> x.find(text));
        }
    }

    private static void nodes() {
        promise = 11;
        PartSplitter x = new PartSplitter();
        due("no parts", x.nodes(), 0);
        x.addPart(112, 1, 7);
        due("12", x.nodes(), 3);
        x.addPart(132, 1, 7);
        due("12 32", x.nodes(), 3);
        x.addPart(13, 1, 7);
        due("12 32 3", x.nodes(), 4);
        x.addPart(11, 1, 7);
        due("12 32 3 1", x.nodes(), 3);
        x.addPart(15678, 1, 7);
        due("and 5678", x.nodes(), 6);
        x.setFlags(4, 0);
        x.addLink(14);
        due("flags and links count nothing", x.nodes(), 6);
        PartSplitter y = new PartSplitter();
        int[] starts = {10100, 11210, 12321, 13432, 14543, 15654, 16765, 17876, 18987, 19098, 10019, 11128, 12237, 13346,
            14455, 15564};
        for (int text : starts) {
            y.addPart(text, 1, 7);
        }
        due("16 parts of 4 letters", y.nodes(), 38);
    }

    private static void splits() throws Exception {
        promise = 12;
        PartSplitter x = new PartSplitter();
        for (int word : new int[] {Integer.MIN_VALUE, -1, 0, 1, 2, 20, 999999999, 1000000000, Integer.MAX_VALUE}) {
            dueThrow("word " + word, ARGUMENT, () -> x.splits(word));
        }
        x.addPart(11, 1, 7);
        x.addPart(111, 1, 7);
        x.addPart(1111, 1, 7);
        x.addPart(11111, 1, 7);
        due("no links", x.splits(111111111), 108);
        x.addLink(11);
        x.addLink(111);
        due("links", x.splits(111111111), 513);
        due("no letter 2", x.splits(111211111), 0);
        due("nothing ahead of a part", x.splits(151), 0);
        due("nothing behind a part", x.splits(115), 0);
        x.addLink(15);
        due("no link ahead of the first part", x.splits(151), 0);
        due("no link behind the last part", x.splits(115), 0);
        due("one link at most", x.splits(11551), 0);
        due("a link between", x.splits(1151), 1);
        due("a zero is a letter", x.splits(1011), 0);
    }

    private static void splitsByFlags() {
        PartSplitter x = new PartSplitter();
        x.addPart(11, 1, 7);
        for (int flags = 0; flags < 8; flags++) {
            x.setFlags(0, flags);
            due("alone with flags " + flags, x.splits(11), (flags & 5) == 5 ? 1 : 0);
            due("all places with flags " + flags, x.splits(1111), flags == 7 ? 1 : 0);
        }
        x.addPart(12, 1, 7);
        for (int flags = 0; flags < 8; flags++) {
            x.setFlags(0, flags);
            due("first with flags " + flags, x.splits(112), flags & 1);
            due("middle with flags " + flags, x.splits(1212), flags >> 1 & 1);
            due("last with flags " + flags, x.splits(121), flags >> 2 & 1);
        }
    }

    private static void cost() throws Exception {
        promise = 13;
        PartSplitter x = new PartSplitter();
        x.addPart(11, 9999, 7);
        x.addPart(12, 1, 7);
        x.addLink(15);
        x.addPart(112, 1, 7);
        dueThrow("word", ARGUMENT, () -> x.cost(1, 0));
        dueThrow("k", ARGUMENT, () -> x.cost(11, -1));
        dueThrow("least k", ARGUMENT, () -> x.cost(11, Integer.MIN_VALUE));
        due("a part", x.cost(11, 0), 10);
        due("two parts", x.cost(111, 0), 35);
        due("a link", x.cost(1151, 0), 38);
        due("two links", x.cost(115151, 0), 66);
        due("the first split", x.cost(112, 0), 140);
        due("the second split", x.cost(112, 1), 165);
        due("no third split", x.cost(112, 2), NONE);
        due("far behind the last split", x.cost(112, Integer.MAX_VALUE), NONE);
        due("no split", x.cost(13, 0), NONE);
    }

    private static void orderOfSplits() {
        PartSplitter x = new PartSplitter();
        x.addPart(11, 5001, 7);
        x.addPart(111, 5001, 7);
        x.addPart(1111, 5001, 7);
        x.addLink(111);
        x.addLink(11);
        dueSplit(x, 11111, 0, 35, 2, 20, 0);
        dueSplit(x, 11111, 1, 35, 2, 10, 10);
        dueSplit(x, 11111, 2, 35, 2, 0, 20);
        dueSplit(x, 11111, 3, 38, 2, 12, 0);
        dueSplit(x, 11111, 4, 38, 2, 1, 0);
        dueSplit(x, 11111, 5, 38, 2, 2, 10);
        dueSplit(x, 11111, 6, 60, 3, 10, 0, 0);
        dueSplit(x, 11111, 7, 60, 3, 0, 10, 0);
        dueSplit(x, 11111, 8, 60, 3, 0, 0, 10);
        dueSplit(x, 11111, 9, 63, 3, 0, 2, 0);
        dueSplit(x, 11111, 10, 63, 3, 2, 0, 0);
        dueSplit(x, 11111, 11, 85, 4, 0, 0, 0, 0);
        due("12 splits", x.splits(11111), 12);
        PartSplitter y = new PartSplitter();
        y.addPart(11, 5001, 7);
        y.addPart(112, 4, 7);
        y.addPart(12, 1250, 7);
        y.addPart(122, 5001, 7);
        y.addPart(1222, 5001, 7);
        y.addPart(121, 5001, 7);
        y.addLink(12);
        y.addLink(122);
        dueSplit(y, 112221, 0, 38, 2, 2, 50);
        dueSplit(y, 112221, 1, 60, 3, 0, 40, 0);
        dueSplit(y, 112221, 2, 60, 3, 0, 30, 50);
        PartSplitter z = new PartSplitter();
        z.addPart(11, 5001, 7);
        z.addPart(112, 5001, 7);
        z.addPart(13, 5001, 7);
        z.addPart(14, 5001, 7);
        z.addPart(15, 5001, 7);
        z.addPart(12345, 312, 7);
        dueSplit(z, 112345, 0, 85, 2, 0, 50);
        dueSplit(z, 112345, 1, 85, 4, 10, 20, 30, 40);
    }

    private static void dueSplit(PartSplitter x, int word, int k, int cost, int size, int... places) {
        String name = "split " + k + " of " + word;
        due("cost of " + name, x.cost(word, k), cost);
        due("size of " + name, x.size(word, k), size);
        for (int i = 0; i < places.length; i++) {
            due("place " + i + " of " + name, x.partAt(word, k, i), places[i]);
        }
        due("behind the last place of " + name, x.partAt(word, k, size), NONE);
    }

    private static void size() throws Exception {
        promise = 14;
        PartSplitter x = new PartSplitter();
        x.addPart(11, 1, 7);
        x.addPart(111, 1, 7);
        dueThrow("word", ARGUMENT, () -> x.size(21, 0));
        dueThrow("k", ARGUMENT, () -> x.size(11, -1));
        due("1 part", x.size(111, 0), 1);
        due("2 parts", x.size(111, 1), 2);
        due("no third", x.size(111, 2), NONE);
        due("4 parts", x.size(111111111, 0), 4);
        due("8 parts", x.size(111111111, 33), 8);
        due("none behind", x.size(111111111, 34), NONE);
    }

    private static void partAt() throws Exception {
        promise = 15;
        PartSplitter x = new PartSplitter();
        for (int i = 0; i < 10; i++) {
            x.addPart(10 + i, 1, 7);
        }
        x.addPart(133, 9999, 7);
        x.addLink(16);
        x.addLink(166);
        dueThrow("word", ARGUMENT, () -> x.partAt(0, 0, 0));
        dueThrow("k", ARGUMENT, () -> x.partAt(10, -1, 0));
        dueThrow("place", ARGUMENT, () -> x.partAt(10, 0, -1));
        dueThrow("a wrong place of a word without a split", ARGUMENT, () -> x.partAt(10, 9, -1));
        due("part 10 and link 1", x.partAt(133662, 0, 0), 102);
        due("part behind a link", x.partAt(133662, 0, 1), 20);
        due("no part there", x.partAt(133662, 0, 2), NONE);
        due("part and link 0", x.partAt(1261, 0, 0), 21);
        due("part and nothing", x.partAt(121, 0, 0), 20);
        due("far place", x.partAt(121, 0, Integer.MAX_VALUE), NONE);
        due("far split", x.partAt(121, Integer.MAX_VALUE, 0), NONE);
        due("the eighth place", x.partAt(112457890, 0, 7), 0);
        due("no ninth place", x.partAt(112457890, 0, 8), NONE);
    }

    private static void head() throws Exception {
        promise = 16;
        PartSplitter x = new PartSplitter();
        x.addPart(11, 1, 7);
        x.addPart(12, 9999, 7);
        x.addPart(112, 1, 7);
        dueThrow("word", ARGUMENT, () -> x.head(1));
        due("no split", x.head(13), NONE);
        due("of one part", x.head(11), 0);
        due("of the first split", x.head(112), 2);
        due("the last part", x.head(1211), 0);
        x.setFlags(2, 0);
        due("of another first split", x.head(112), 1);
    }

    private static void readings() throws Exception {
        promise = 17;
        PartSplitter x = new PartSplitter();
        dueThrow("word", ARGUMENT, () -> x.readings(1000000000));
        due("no split", x.readings(11), 0);
        x.addPart(11, 1, 7);
        int[] due = {1, 1, 2, 5, 14, 42, 132, 429};
        int word = 11;
        for (int i = 0; i < due.length; i++) {
            due("readings of " + (i + 1) + " parts", x.readings(word), due[i]);
            word = 10 * word + 1;
        }
        x.addPart(111, 1, 7);
        due("readings of 2 and 1 parts", x.readings(111), 2);
        due("readings of 3, 2, 2 parts", x.readings(1111), 4);
    }

    private static void learn() throws Exception {
        promise = 18;
        PartSplitter x = new PartSplitter();
        dueThrow("word", ARGUMENT, () -> x.learn(1));
        due("no split", x.learn(11), false);
        x.addPart(11, 9997, 7);
        due("one split", x.learn(111), true);
        due("each place counts, up to 9999", x.count(0), 9999);
        due("three places at the top", x.learn(1111), true);
        due("not above 9999", x.count(0), 9999);
        x.addPart(1111, 9999, 7);
        x.setFlags(0, 5);
        x.addPart(121, 313, 7);
        x.addPart(12, 9999, 7);
        due("gap of 15", x.cost(121, 1) - x.cost(121, 0), 15);
        due("15 dearer the first is not sure", x.learn(121), false);
        due("an unsure word changes nothing", x.count(2), 313);
        due("and is not learned", x.learned(), 2);
        x.addPart(122, 9999, 7);
        due("25 dearer is sure", x.learn(122), true);
        due("25 dearer", x.cost(122, 1) - x.cost(122, 0), 25);
        gapOfTwenty();
    }

    private static void gapOfTwenty() {
        PartSplitter x = new PartSplitter();
        x.addPart(11, 5001, 7);
        x.addPart(12, 5001, 7);
        x.addPart(112, 1251, 7);
        x.addPart(122, 5001, 7);
        due("gap of 20", x.cost(1122, 1) - x.cost(1122, 0), 20);
        due("20 is sure", x.learn(1122), true);
        due("part 0 grew", x.count(0), 5002);
        due("part 1 did not", x.count(1), 5001);
        due("part 2 did not", x.count(2), 1251);
        due("part 3 grew", x.count(3), 5002);
        PartSplitter y = new PartSplitter();
        y.addPart(11, 5001, 7);
        y.addPart(12, 5001, 7);
        y.addPart(13, 5001, 7);
        y.addPart(15, 5001, 2);
        y.addPart(152, 5001, 7);
        y.addLink(15);
        y.bar(4, 0, true);
        due("gap of 19", y.cost(115253, 1) - y.cost(115253, 0), 19);
        due("19 is not sure", y.learn(115253), false);
        due("nothing grew", y.count(0), 5001);
    }

    private static void learnUpToTheLimit() throws Exception {
        PartSplitter x = new PartSplitter();
        x.addPart(11, 1, 7);
        for (int i = 0; i < 50; i++) {
            due("learn " + i, x.learn(11), true);
        }
        due("50 are learned", x.learned(), 50);
        due("counted 50 times", x.count(0), 51);
        dueThrow("a 51st", STATE, () -> x.learn(11));
        dueThrow("a 51st that is not sure", STATE, () -> x.learn(12));
        dueThrow("a 51st that is no text", ARGUMENT, () -> x.learn(1));
        due("and no more", x.count(0), 51);
        due("forget", x.forget(), 11);
        due("not sure when there is room", x.learn(12), false);
        due("learn again", x.learn(11), true);
        dueThrow("a 51st again", STATE, () -> x.learn(11));
    }

    private static void forget() throws Exception {
        promise = 19;
        PartSplitter x = new PartSplitter();
        dueThrow("none", STATE, x::forget);
        x.addPart(11, 9997, 7);
        x.addPart(12, 5000, 7);
        x.learn(1121);
        due("two places", x.count(0), 9999);
        x.learn(112);
        due("at the top", x.count(0), 9999);
        due("and the other", x.count(1), 5002);
        due("cheaper", x.costOf(1), 10);
        due("last word", x.forget(), 112);
        due("what did not grow stays", x.count(0), 9999);
        due("what grew is taken off", x.count(1), 5001);
        x.setFlags(0, 0);
        x.veto(0, 1, true);
        due("first word, which has no split now", x.forget(), 1121);
        due("both places are taken off", x.count(0), 9997);
        due("as at the beginning", x.count(1), 5000);
        dueThrow("none again", STATE, x::forget);
        x.setFlags(0, 7);
        x.learn(111111111);
        due("eight places, two of them grew", x.count(0), 9999);
        x.forget();
        due("two are taken off", x.count(0), 9997);
    }

    private static void learned() throws Exception {
        promise = 20;
        PartSplitter x = new PartSplitter();
        x.addPart(11, 1, 7);
        due("none", x.learned(), 0);
        x.learn(11);
        x.learn(111);
        due("two", x.learned(), 2);
        x.learn(12);
        due("not the one that is not sure", x.learned(), 2);
        x.forget();
        due("one is forgotten", x.learned(), 1);
        x.forget();
        dueThrow("none to forget", STATE, x::forget);
        due("none", x.learned(), 0);
    }

    private static void due(String what, Object got, Object want) {
        if (!got.equals(want)) {
            tell(what + " answered " + got + ", due is " + want);
        }
    }

    private static void dueThrow(String what, Class<?> type, Callable<?> call) {
        try {
            tell(what + " answered " + call.call() + ", due is " + type.getName());
        } catch (Exception e) {
            if (e.getClass() != type) {
                tell(what + " threw " + e + ", due is " + type.getName());
            }
        }
    }

    private static void tell(String line) {
        wrong++;
        System.out.println("promise " + promise + ": " + line);
    }
}
