import java.util.ArrayList;
import java.util.HashSet;
import java.util.List;
import java.util.Objects;
import java.util.Random;
import java.util.Set;

/** Long runs of drawn calls, each answer compared with that of a plain model that keeps texts as strings. */
public final class RandomRunsTest {
    private static final int RUNS = 1500;
    private static final int CALLS = 512;
    private static final int NONE = -1;

    /** A call that a run makes, of the class or of the model. */
    private interface Call {
        Object answer();
    }

    private static final class Split {
        final List<Integer> parts = new ArrayList<>();
        final List<Integer> links = new ArrayList<>();
        int cost;
    }

    /** The document's words, with nothing done for speed. */
    private static final class Model {
        final List<String> texts = new ArrayList<>();
        final List<Integer> counts = new ArrayList<>();
        final List<Integer> flags = new ArrayList<>();
        final List<String> links = new ArrayList<>();
        final Set<List<Integer>> vetoes = new HashSet<>();
        final Set<List<Integer>> bars = new HashSet<>();
        final List<Integer> words = new ArrayList<>();
        final List<List<Integer>> countsBefore = new ArrayList<>();

        static String letters(int text, int most) {
            String digits = Integer.toString(text);
            boolean isText = text > 0 && digits.charAt(0) == '1' && digits.length() > 1 && digits.length() <= most + 1;
            require(isText);
            return digits.substring(1);
        }

        static void require(boolean isRight) {
            if (!isRight) {
                throw new IllegalArgumentException();
            }
        }

        static void allow(boolean isAllowed) {
            if (!isAllowed) {
                throw new IllegalStateException();
            }
        }

        static void within(int index, List<?> list) {
            if (index < 0 || index >= list.size()) {
                throw new IndexOutOfBoundsException();
            }
        }

        int addPart(int text, int count, int flag) {
            String letters = letters(text, 4);
            require(count >= 1 && count <= 9999 && flag >= 1 && flag <= 7);
            allow(texts.size() < 16 && !texts.contains(letters));
            texts.add(letters);
            counts.add(count);
            flags.add(flag);
            return texts.size() - 1;
        }

        int setFlags(int part, int flag) {
            within(part, texts);
            require(flag >= 0 && flag <= 7);
            return flags.set(part, flag);
        }

        int addLink(int text) {
            String letters = letters(text, 2);
            allow(links.size() < 6 && !links.contains(letters));
            links.add(letters);
            return links.size() - 1;
        }

        boolean veto(int part, int next, boolean isVeto) {
            within(part, texts);
            within(next, texts);
            return change(vetoes, List.of(part, next), isVeto);
        }

        boolean bar(int part, int link, boolean isBar) {
            within(part, texts);
            within(link, links);
            return change(bars, List.of(part, link), isBar);
        }

        private static boolean change(Set<List<Integer>> set, List<Integer> pair, boolean isIn) {
            return isIn ? !set.add(pair) : set.remove(pair);
        }

        int count(int part) {
            within(part, texts);
            return counts.get(part);
        }

        int costOf(int part) {
            within(part, texts);
            int cost = 10;
            for (int count = 2 * counts.get(part); count <= 10000; count *= 2) {
                cost += 10;
            }
            return cost;
        }

        int find(int text) {
            return texts.indexOf(letters(text, 8));
        }

        int nodes() {
            Set<Set<String>> sets = new HashSet<>();
            for (String text : texts) {
                for (int i = 0; i <= text.length(); i++) {
                    Set<String> ends = new HashSet<>();
                    for (String other : texts) {
                        if (other.startsWith(text.substring(0, i))) {
                            ends.add(other.substring(i));
                        }
                    }
                    sets.add(ends);
                }
            }
            return sets.size();
        }

        List<Split> all(int word) {
            List<Split> rows = new ArrayList<>();
            extend(letters(word, 8), new Split(), rows);
            rows.sort(this::compare);
            return rows;
        }

        private void extend(String rest, Split start, List<Split> rows) {
            for (int part = 0; part < texts.size(); part++) {
                if (!rest.startsWith(texts.get(part))) {
                    continue;
                }
                String behind = rest.substring(texts.get(part).length());
                if (behind.isEmpty()) {
                    add(longer(start, part, NONE), rows);
                    continue;
                }
                extend(behind, longer(start, part, NONE), rows);
                for (int link = 0; link < links.size(); link++) {
                    if (behind.startsWith(links.get(link))) {
                        extend(behind.substring(links.get(link).length()), longer(start, part, link), rows);
                    }
                }
            }
        }

        private Split longer(Split start, int part, int link) {
            Split split = new Split();
            split.parts.addAll(start.parts);
            split.links.addAll(start.links);
            split.parts.add(part);
            split.links.add(link);
            return split;
        }

        private void add(Split split, List<Split> rows) {
            int last = split.parts.size() - 1;
            for (int i = 0; i <= last; i++) {
                int part = split.parts.get(i);
                int flag = flags.get(part);
                boolean isRight = (i > 0 || (flag & 1) != 0) && (i < last || (flag & 4) != 0)
                    && (i == 0 || i == last || (flag & 2) != 0)
                    && (i == last || !vetoes.contains(List.of(part, split.parts.get(i + 1))))
                    && !bars.contains(List.of(part, split.links.get(i)));
                if (!isRight) {
                    return;
                }
                split.cost += costOf(part) + (i > 0 ? 15 : 0) + (split.links.get(i) == NONE ? 0 : 3);
            }
            rows.add(split);
        }

        private int compare(Split a, Split b) {
            if (a.cost != b.cost) {
                return Integer.compare(a.cost, b.cost);
            }
            if (a.parts.size() != b.parts.size()) {
                return Integer.compare(a.parts.size(), b.parts.size());
            }
            for (int i = 0; i < a.parts.size(); i++) {
                int mine = texts.get(a.parts.get(i)).length();
                int others = texts.get(b.parts.get(i)).length();
                if (mine != others) {
                    return Integer.compare(others, mine);
                }
                if (!a.links.get(i).equals(b.links.get(i))) {
                    return Integer.compare(a.links.get(i), b.links.get(i));
                }
            }
            return 0;
        }

        Split split(int word, int k) {
            letters(word, 8);
            require(k >= 0);
            List<Split> rows = all(word);
            return k < rows.size() ? rows.get(k) : null;
        }

        int cost(int word, int k) {
            Split split = split(word, k);
            return split == null ? NONE : split.cost;
        }

        int size(int word, int k) {
            Split split = split(word, k);
            return split == null ? NONE : split.parts.size();
        }

        int partAt(int word, int k, int place) {
            require(place >= 0);
            Split split = split(word, k);
            return split == null || place >= split.parts.size() ? NONE
                : 10 * split.parts.get(place) + split.links.get(place) + 1;
        }

        int head(int word) {
            Split split = split(word, 0);
            return split == null ? NONE : split.parts.get(split.parts.size() - 1);
        }

        int readings(int word) {
            int sum = 0;
            for (Split split : all(word)) {
                sum += trees(split.parts.size());
            }
            return sum;
        }

        private static int trees(int leaves) {
            if (leaves == 1) {
                return 1;
            }
            int sum = 0;
            for (int left = 1; left < leaves; left++) {
                sum += trees(left) * trees(leaves - left);
            }
            return sum;
        }

        boolean learn(int word) {
            List<Split> rows = all(word);
            allow(words.size() < 50);
            if (rows.isEmpty() || rows.size() > 1 && rows.get(1).cost - rows.get(0).cost < 20) {
                return false;
            }
            words.add(word);
            countsBefore.add(List.copyOf(counts));
            for (int part : rows.get(0).parts) {
                counts.set(part, Math.min(9999, counts.get(part) + 1));
            }
            return true;
        }

        int forget() {
            allow(!words.isEmpty());
            List<Integer> before = countsBefore.remove(words.size() - 1);
            for (int i = 0; i < before.size(); i++) {
                counts.set(i, before.get(i));
            }
            return words.remove(words.size() - 1);
        }
    }

    private static final int[] COUNTS = {1, 2, 3, 312, 313, 625, 626, 1250, 1251, 2500, 2501, 4999, 5000, 5001, 9997,
        9998, 9999};

    private final Random random;
    private final int letters;
    private final boolean isTame;
    private final PartSplitter real = new PartSplitter();
    private final Model model = new Model();

    private RandomRunsTest(long seed) {
        random = new Random(seed);
        letters = 1 + random.nextInt(3);
        isTame = random.nextInt(3) > 0;
    }

    private int text(int most) {
        if (random.nextInt(60) == 0) {
            return new int[] {0, 1, -1, 2, 20, -10, 999999999, 1000000000, 1111111111, 200000000, 29,
                Integer.MAX_VALUE, Integer.MIN_VALUE, 100000, 1000, 199999999}[random.nextInt(16)];
        }
        int text = 1;
        for (int i = 1 + random.nextInt(most); i > 0; i--) {
            text = 10 * text + random.nextInt(letters) * 4;
        }
        return text;
    }

    private int index(int used) {
        return random.nextInt(40) == 0 ? random.nextInt(40) - 10 : random.nextInt(Math.max(1, used));
    }

    private int k() {
        if (random.nextInt(40) == 0) {
            return random.nextBoolean() ? -1 - random.nextInt(3) : Integer.MAX_VALUE;
        }
        return random.nextInt(random.nextBoolean() ? 4 : 60);
    }

    private int countOfPart() {
        if (random.nextInt(30) == 0) {
            return new int[] {0, -1, 10000, Integer.MAX_VALUE}[random.nextInt(4)];
        }
        return random.nextInt(3) == 0 ? 1 + random.nextInt(9999) : COUNTS[random.nextInt(COUNTS.length)];
    }

    private int flags() {
        if (random.nextInt(30) == 0) {
            return random.nextInt(12) - 2;
        }
        return random.nextInt(isTame ? 10 : 2) > 0 ? 7 : 1 + random.nextInt(7);
    }

    /** Runs one drawn call on both; answers what differs, or null. */
    private String step() {
        int kind = random.nextInt(40);
        int parts = model.texts.size();
        int links = model.links.size();
        int word = text(8);
        int k = k();
        if (kind < 4) {
            int text = text(4), count = countOfPart(), flags = flags();
            return differs("addPart(" + text + ", " + count + ", " + flags + ")",
                () -> real.addPart(text, count, flags), () -> model.addPart(text, count, flags));
        } else if (kind < 6) {
            int text = text(2);
            return differs("addLink(" + text + ")", () -> real.addLink(text), () -> model.addLink(text));
        } else if (kind < 14) {
            return stepOnParts(kind, index(parts), index(parts), index(links));
        } else if (kind < 16) {
            return differs("nodes()", real::nodes, model::nodes);
        } else if (kind < 18) {
            int text = text(random.nextInt(4) == 0 ? 8 : 4);
            return differs("find(" + text + ")", () -> real.find(text), () -> model.find(text));
        } else if (kind < 32) {
            return stepOnSplits(kind, word, k, random.nextInt(30) == 0 ? -1 : random.nextInt(9));
        }
        return stepOfLearning(kind, word);
    }

    private String stepOnParts(int kind, int part, int next, int link) {
        boolean is = random.nextInt(isTame ? 4 : 2) == 0;
        int flags = random.nextBoolean() ? 7 : random.nextInt(10) - 1;
        switch (kind) {
            case 6:
                return differs("setFlags(" + part + ", " + flags + ")",
                    () -> real.setFlags(part, flags), () -> model.setFlags(part, flags));
            case 7:
            case 8:
                return differs("veto(" + part + ", " + next + ", " + is + ")",
                    () -> real.veto(part, next, is), () -> model.veto(part, next, is));
            case 9:
            case 10:
                return differs("bar(" + part + ", " + link + ", " + is + ")",
                    () -> real.bar(part, link, is), () -> model.bar(part, link, is));
            case 11:
                return differs("parts()", real::parts, model.texts::size);
            case 12:
                return differs("count(" + part + ")", () -> real.count(part), () -> model.count(part));
            default:
                return differs("costOf(" + part + ")", () -> real.costOf(part), () -> model.costOf(part));
        }
    }

    private String stepOnSplits(int kind, int word, int k, int place) {
        switch (kind) {
            case 18:
            case 19:
                return differs("splits(" + word + ")", () -> real.splits(word), () -> model.all(word).size());
            case 20:
            case 21:
            case 22:
                return differs("cost(" + word + ", " + k + ")", () -> real.cost(word, k), () -> model.cost(word, k));
            case 23:
            case 24:
                return differs("size(" + word + ", " + k + ")", () -> real.size(word, k), () -> model.size(word, k));
            case 25:
            case 26:
                return differs("head(" + word + ")", () -> real.head(word), () -> model.head(word));
            case 27:
                return differs("readings(" + word + ")", () -> real.readings(word), () -> model.readings(word));
            default:
                return differs("partAt(" + word + ", " + k + ", " + place + ")",
                    () -> real.partAt(word, k, place), () -> model.partAt(word, k, place));
        }
    }

    private String stepOfLearning(int kind, int word) {
        if (kind < 37) {
            return differs("learn(" + word + ")", () -> real.learn(word), () -> model.learn(word));
        } else if (kind < 39) {
            return differs("forget()", real::forget, model::forget);
        }
        return differs("learned()", real::learned, model.words::size);
    }

    private static String differs(String call, Call real, Call model) {
        Object got = answer(real);
        Object want = answer(model);
        return Objects.equals(got, want) ? null : call + " answered " + got + ", due is " + want;
    }

    private static Object answer(Call call) {
        try {
            return call.answer();
        } catch (RuntimeException e) {
            return "throws " + e.getClass().getSimpleName();
        }
    }

    /** Every split of some words, from the first one to behind the last one. */
    private String compareAll() {
        for (int i = 0; i < 3; i++) {
            int word = text(8);
            if (answer(() -> model.find(word)) instanceof String) {
                continue;
            }
            List<Split> rows = model.all(word);
            for (int k = 0; k <= rows.size(); k++) {
                String wrong = compareSplit(word, k, k < rows.size() ? rows.get(k) : null);
                if (wrong != null) {
                    return wrong;
                }
            }
        }
        return null;
    }

    private String compareSplit(int word, int k, Split split) {
        int size = split == null ? NONE : split.parts.size();
        if (real.cost(word, k) != (split == null ? NONE : split.cost) || real.size(word, k) != size) {
            return "cost or size of split " + k + " of " + word;
        }
        for (int place = 0; place <= size; place++) {
            int due = place == size ? NONE : 10 * split.parts.get(place) + split.links.get(place) + 1;
            if (real.partAt(word, k, place) != due) {
                return "place " + place + " of split " + k + " of " + word;
            }
        }
        return null;
    }

    public static void main(String[] args) {
        int runs = args.length > 0 ? Integer.parseInt(args[0]) : RUNS;
        for (int seed = 0; seed < runs; seed++) {
            RandomRunsTest run = new RandomRunsTest(seed);
            String wrong = null;
            for (int i = 0; i < CALLS && wrong == null; i++) {
                wrong = run.step();
            }
            if (wrong == null) {
                wrong = run.compareAll();
            }
            if (wrong != null) {
                System.out.println("run " + seed + ": " + wrong);
                System.exit(1);
            }
        }
    }
}
