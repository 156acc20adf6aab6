import java.math.BigInteger;
import java.util.ArrayDeque;
import java.util.ArrayList;
import java.util.Arrays;
import java.util.Comparator;
import java.util.Deque;
import java.util.List;
import java.util.Map;
import java.util.Random;
import java.util.Set;
import java.util.TreeMap;
import java.util.TreeSet;
import java.util.regex.Matcher;
import java.util.regex.Pattern;

/**
 * Long runs of calls, drawn by fixed seeds, on the program and on a second reading of the document (Model), which
 * is written with the Java library and by other ways: every answer has to be the same.
 */
public final class ModelTest {
    private static final int RUNS = 1000, CALLS = 512;
    private static final int NONE = -1000000, BAD = -1000001, STATE = -1000002, FULL = -1000003;
    private static final String[] CALL_NAMES = {"row", "set", "copy", "drop", "feed", "town", "fault", "undo", "brew",
        "days", "tap", "water", "blend", "cask", "drinker", "rumour", "telling", "fewest", "silence", "malts", "who",
        "goesOff", "best", "blended", "silent", "drawn", "image", "restore", "kind", "as", "ask", "trace", "count",
        "status"};
    private static final int[] PARAMETERS = {3, 3, 5, 1, 1, 0, 0, 0, 2, 1, 2, 1, 2, 2, 2, 1, 3, 4, 4, 4, 5, 2, 2, 3,
        5, 3, 1, 1, 1, 2, 2, 1, 1, 0};

    private static final int ROW = 0, SET = 1, FEED = 4, TOWN = 5, MALTS = 19, WHO = 20;
    private static final Set<String> RARE = Set.of("feed", "town", "drop", "image", "restore");

    public static void main(String[] args) {
        int wrong = 0;
        int[] answered = new int[CALL_NAMES.length];
        for (int seed = 1; seed <= RUNS && wrong < 20; seed++) {
            wrong += runDiffers(seed, answered) ? 1 : 0;
        }
        for (int k = 0; k < answered.length; k++) {
            if (answered[k] < 50) {
                System.out.println(CALL_NAMES[k] + " was answered only " + answered[k] + " times");
                wrong++;
            }
        }
        System.out.println(RUNS + " runs, " + wrong + " wrong");
        if (wrong != 0) {
            System.exit(1);
        }
    }

    private static boolean runDiffers(int seed, int[] answered) {
        Random random = new Random(seed);
        RumourBrew program = new RumourBrew();
        Model model = new Model();
        Deque<int[]> plan = new ArrayDeque<>();
        List<String> log = new ArrayList<>();
        for (int k = 0; k < CALLS; k++) {
            int[] next = nextCall(random, plan, model);
            int call = next[0];
            int[] a = Arrays.copyOfRange(next, 1, next.length);
            long got = onProgram(program, call, a);
            long want = model.answer(call, a);
            log.add(CALL_NAMES[call] + Arrays.toString(a) + " = " + got);
            if (got != want) {
                System.out.println("seed " + seed + ": " + log.get(log.size() - 1) + ", due is " + want);
                System.out.println("  behind " + String.join("; ", log.subList(Math.max(0, k - 130), k)));
                return true;
            }
            boolean isEmptySet = got == 0 && (call == MALTS || call == WHO);
            if (got > NONE && !isEmptySet) {
                answered[call]++;
            }
        }
        return false;
    }

    /** A call and its arguments: what is planned, with a stray call now and then, or one by chance. */
    private static int[] nextCall(Random random, Deque<int[]> plan, Model model) {
        if (plan.isEmpty() && (model.now.people.isEmpty() && random.nextInt(10) > 0 || random.nextInt(120) == 0)) {
            planTown(random, plan);
        } else if (plan.isEmpty() && !model.now.barrels.isEmpty() && random.nextInt(40) == 0) {
            planTaps(random, plan, model);
        }
        if (!plan.isEmpty() && random.nextInt(50) > 0) {
            return plan.poll();
        }
        int call = random.nextInt(CALL_NAMES.length);
        if (RARE.contains(CALL_NAMES[call]) && random.nextInt(4) > 0) {
            call = 8 + random.nextInt(6);
        }
        int[] next = new int[1 + PARAMETERS[call]];
        next[0] = call;
        for (int i = 1; i < next.length; i++) {
            next[i] = drawnNumber(random, call, i - 1);
        }
        return next;
    }

    private static void planTown(Random random, Deque<int[]> plan) {
        String text = drawnText(random);
        for (int i = 0; i < text.length(); i++) {
            plan.add(new int[] {FEED, text.charAt(i)});
        }
        plan.add(new int[] {TOWN});
    }

    /** Rows that fit are rare by chance: here one tells what would be believed by some MALT, some KIND. */
    private static void planTaps(Random random, Deque<int[]> plan, Model model) {
        List<Integer> casks = new ArrayList<>(model.now.barrels.keySet());
        int cask = casks.get(random.nextInt(casks.size()));
        Barrel barrel = model.now.barrels.get(cask);
        List<Person> people = new ArrayList<>(model.now.people);
        int one = random.nextInt(people.size());
        int malt = random.nextBoolean() ? barrel.malt : random.nextInt(21);
        if (malt == barrel.malt) {
            Person as = people.get(one);
            people.set(one, person(1 + random.nextInt(5), one, as.doubt, as.disliked));
        }
        int n = 1 + random.nextInt(6);
        int row = random.nextInt(8);
        plan.add(new int[] {ROW, row, random.nextInt(3), 2 * n + 1});
        int strong = model.now.strong(malt, model.now.day - barrel.brewed);
        for (int k = 0; k < n; k++) {
            int at = random.nextInt(people.size());
            Heard heard = hear(people, model.now.ties, barrel.whom, strong, Set.of(at));
            plan.add(new int[] {SET, row, 2 * k + 1, at});
            plan.add(new int[] {SET, row, 2 * k + 2, bits(heard.believers)});
        }
        plan.add(new int[] {MALTS, cask, row, 1, n});
        plan.add(new int[] {WHO, one, cask, row, 1, n});
        plan.add(new int[] {WHO, (one + 1) % people.size(), cask, row, 1, n});
    }

    private static String drawnText(Random random) {
        StringBuilder b = new StringBuilder();
        b.append('o').append(random.nextInt(random.nextBoolean() ? 4 : 21));
        b.append(',').append(1 + random.nextInt(random.nextBoolean() ? 6 : 40));
        b.append(',').append(random.nextInt(10)).append(';');
        int people = random.nextBoolean() ? 4 + random.nextInt(3) : 1 + random.nextInt(7);
        for (int k = 0; k < people; k++) {
            b.append("dgwbrdgw".charAt(random.nextInt(8))).append(random.nextInt(random.nextBoolean() ? 5 : 13));
            b.append(',').append(random.nextInt(6)).append(';');
        }
        int ties = random.nextInt(random.nextInt(3) == 0 ? 12 : 9);
        Set<Integer> used = new TreeSet<>();
        for (int k = 0; k < ties * 2 && used.size() < ties; k++) {
            int tie = random.nextInt(people) * 10 + random.nextInt(people);
            boolean isWrong = tie / 10 == tie % 10 || used.contains(tie);
            if (!isWrong || random.nextInt(60) == 0) {
                used.add(tie);
                b.append('t').append(tie / 10).append(',').append(tie % 10).append(';');
            }
        }
        if (random.nextInt(4) == 0) {
            spoil(random, b);
        }
        return b.toString();
    }

    private static void spoil(Random random, StringBuilder b) {
        int i = random.nextInt(b.length());
        char sign = "odgwbrt,;0123456789 z".charAt(random.nextInt(21));
        switch (random.nextInt(3)) {
            case 0:
                b.deleteCharAt(i);
                break;
            case 1:
                b.setCharAt(i, sign);
                break;
            default:
                b.insert(i, sign);
                break;
        }
    }

    private static int drawnNumber(Random random, int call, int i) {
        int odd = random.nextInt(60);
        if (odd == 0) {
            return random.nextInt();
        }
        if (odd == 1) {
            return random.nextBoolean() ? Integer.MAX_VALUE : Integer.MIN_VALUE;
        }
        if (odd == 2) {
            return -1 - random.nextInt(3);
        }
        switch (CALL_NAMES[call] + i) {
            case "row0": case "set0": case "copy0": case "copy2": case "drop0": case "malts1": case "who2":
                return random.nextInt(4) == 0 ? random.nextInt(9) : random.nextInt(3);
            case "row1":
                return random.nextInt(8) == 0 ? 3 : random.nextInt(3) / 2;
            case "row2":
                return random.nextInt(4) == 0 ? random.nextInt(42) : 4 + random.nextInt(9);
            case "set1": case "copy1": case "copy3": case "copy4": case "malts2": case "who3":
                return random.nextInt(8);
            case "brew0": case "tap1": case "drinker0": case "rumour0": case "silence1": case "silence2": case "who0":
            case "blended2": case "silent1": case "silent2": case "kind0": case "as0": case "ask0":
                return random.nextInt(random.nextInt(4) == 0 ? 7 : 5);
            case "set2":
                return random.nextInt(8) == 0 ? random.nextInt(70000) - 35000
                        : random.nextBoolean() ? random.nextInt(5) : random.nextInt(64);
            case "feed0":
                return random.nextInt(257);
            case "brew1":
                return random.nextInt(22);
            case "days0":
                return random.nextInt(8) == 0 ? random.nextInt(26) : 1 + random.nextInt(2);
            case "telling1":
                return random.nextInt(65);
            case "fewest1": case "fewest2":
                return random.nextInt(3) == 0 ? random.nextInt(64) : 1 << random.nextInt(6);
            case "silent3":
                return random.nextInt(12);
            case "drawn0":
                return random.nextInt(62);
            case "drawn1":
                return random.nextInt(8) == 0 ? random.nextInt(2) * 999999 + random.nextInt(2) : random.nextInt(1000001);
            case "count0":
                return random.nextInt(9);
            case "trace0":
                return random.nextInt(random.nextInt(4) == 0 ? 18 : 8);
            case "image0": case "restore0":
                return random.nextInt(9) / 4;
            case "as1":
                return random.nextInt(7);
            case "cask1":
                return random.nextInt(6);
            case "drinker1": case "telling2":
                return random.nextInt(4);
            case "fewest3": case "silence3": case "goesOff1": case "best1": case "silent4": case "drawn2":
            case "ask1":
                return random.nextInt(9) / 4;
            case "malts3": case "who4":
                return random.nextInt(8);
            default:
                return random.nextInt(5);
        }
    }

    private static long onProgram(RumourBrew x, int call, int[] a) {
        switch (CALL_NAMES[call]) {
            case "row": return x.row(a[0], a[1], a[2]);
            case "set": return x.set(a[0], a[1], a[2]);
            case "copy": return x.copy(a[0], a[1], a[2], a[3], a[4]);
            case "drop": return x.drop(a[0]);
            case "feed": return x.feed(a[0]);
            case "town": return x.town();
            case "fault": return x.fault();
            case "undo": return x.undo();
            case "brew": return x.brew(a[0], a[1]);
            case "days": return x.days(a[0]);
            case "tap": return x.tap(a[0], a[1]);
            case "water": return x.water(a[0]);
            case "blend": return x.blend(a[0], a[1]);
            case "cask": return x.cask(a[0], a[1]);
            case "drinker": return x.drinker(a[0], a[1]);
            case "rumour": return x.rumour(a[0]);
            case "telling": return x.telling(a[0], a[1], a[2]);
            case "fewest": return x.fewest(a[0], a[1], a[2], a[3]);
            case "silence": return x.silence(a[0], a[1], a[2], a[3]);
            case "malts": return x.malts(a[0], a[1], a[2], a[3]);
            case "who": return x.who(a[0], a[1], a[2], a[3], a[4]);
            case "goesOff": return x.goesOff(a[0], a[1]);
            case "best": return x.best(a[0], a[1]);
            case "blended": return x.blended(a[0], a[1], a[2]);
            case "silent": return x.silent(a[0], a[1], a[2], a[3], a[4]);
            case "drawn": return x.drawn(a[0], a[1], a[2]);
            case "image": return x.image(a[0]);
            case "restore": return x.restore(a[0]);
            case "kind": return x.kind(a[0]);
            case "as": return x.as(a[0], a[1]);
            case "ask": return x.ask(a[0], a[1]);
            case "trace": return x.trace(a[0]);
            case "count": return x.count(a[0]);
            default: return x.status();
        }
    }

    /** What a call comes to when it is refused: told by an exception here, unlike in the program. */
    private static final class Refused extends RuntimeException {
        private static final long serialVersionUID = 1;
        final int answer;

        Refused(int answer) {
            super(null, null, false, false);
            this.answer = answer;
        }
    }

    /** KINDS as classes, so that the language itself finds the nearest BODY of an ask. */
    private abstract static class Person {
        int number;
        int doubt;
        int disliked;
        List<Integer> trace;

        int size() {
            trace.add(10);
            return doubt;
        }

        int mark() {
            trace.add(20);
            return number;
        }

        abstract boolean canBelieve(int strong, int more);

        abstract int passes(int strong, boolean believes);

        boolean tells(int other, List<int[]> ties) {
            return ties.stream().anyMatch(t -> t[0] == number && t[1] == other);
        }
    }

    private static class Plain extends Person {
        @Override int size() {
            trace.add(11);
            int lent = super.size();
            return lent + mark();
        }

        @Override int mark() {
            trace.add(21);
            return super.mark() + disliked;
        }

        @Override boolean canBelieve(int strong, int more) {
            return strong + more >= doubt;
        }

        @Override int passes(int strong, boolean believes) {
            return believes ? strong - 1 : 0;
        }
    }

    private static final class Gossip extends Plain {
        @Override int size() {
            trace.add(12);
            return -super.size();
        }

        @Override int mark() {
            trace.add(24);
            return super.mark() * 2;
        }

        @Override int passes(int strong, boolean believes) {
            return believes ? strong + 1 : 0;
        }
    }

    private static final class Wife extends Plain {
        @Override int mark() {
            trace.add(22);
            return super.mark() - 1000;
        }

        @Override boolean canBelieve(int strong, int more) {
            return super.canBelieve(strong / 2, more);
        }
    }

    private static class Boy extends Person {
        @Override int size() {
            trace.add(13);
            return super.size() - 100;
        }

        @Override int mark() {
            trace.add(23);
            int lent = super.mark();
            return lent - size();
        }

        @Override boolean canBelieve(int strong, int more) {
            return false;
        }

        @Override int passes(int strong, boolean believes) {
            return strong - 2;
        }
    }

    private static final class Rat extends Boy {
        @Override int size() {
            trace.add(14);
            return super.size() * 2;
        }

        @Override int passes(int strong, boolean believes) {
            return strong / 2;
        }

        @Override boolean tells(int other, List<int[]> ties) {
            return other != number;
        }
    }

    private static final List<Class<? extends Person>> CLASSES = List.of(Person.class, Plain.class, Gossip.class,
            Wife.class, Boy.class, Rat.class);

    private static Person person(int kind, int number, int doubt, int disliked) {
        Person one;
        switch (kind) {
            case 1: one = new Plain(); break;
            case 2: one = new Gossip(); break;
            case 3: one = new Wife(); break;
            case 4: one = new Boy(); break;
            default: one = new Rat(); break;
        }
        one.number = number;
        one.doubt = doubt;
        one.disliked = disliked;
        return one;
    }

    private static final class Barrel {
        final int whom;
        int malt;
        final int brewed;

        Barrel(int whom, int malt, int brewed) {
            this.whom = whom;
            this.malt = malt;
            this.brewed = brewed;
        }
    }

    /** All of a town; it is copied whole wherever something is kept. */
    private static final class World {
        int oak;
        int keeps;
        int excise;
        int day;
        List<Person> people = new ArrayList<>();
        List<int[]> ties = new ArrayList<>();
        Map<Integer, Barrel> barrels = new TreeMap<>();
        Set<List<Integer>> notes = new java.util.HashSet<>();

        World another() {
            World w = new World();
            w.oak = oak;
            w.keeps = keeps;
            w.excise = excise;
            w.day = day;
            w.people = new ArrayList<>(people);
            w.ties = new ArrayList<>(ties);
            barrels.forEach((n, b) -> w.barrels.put(n, new Barrel(b.whom, b.malt, b.brewed)));
            w.notes.addAll(notes);
            return w;
        }

        int strong(int malt, int age) {
            if (age > keeps) {
                return 0;
            }
            return age >= oak ? malt : malt - malt / 3;
        }

        int strong(Barrel b) {
            return strong(b.malt, day - b.brewed);
        }

        int tap(int cask, int one) {
            Barrel b = barrels.get(cask);
            Heard heard = hear(people, ties, b.whom, strong(b), Set.of(one));
            heard.believers.forEach(d -> notes.add(List.of(b.whom, d)));
            b.malt = Math.max(0, b.malt - 1);
            return bits(heard.believers);
        }
    }

    private static final class Heard {
        final Set<Integer> believers = new TreeSet<>();
        final Map<Integer, Integer> firstStep = new TreeMap<>();
    }

    private static Heard hear(List<Person> people, List<int[]> ties, int whom, int strong, Set<Integer> some) {
        Heard heard = new Heard();
        Map<Integer, List<Integer>> coming = new TreeMap<>();
        some.forEach(d -> coming.computeIfAbsent(d, k -> new ArrayList<>()).add(strong));
        for (int step = 0; !coming.isEmpty(); step++) {
            Map<Integer, List<Integer>> later = new TreeMap<>();
            for (Map.Entry<Integer, List<Integer>> e : coming.entrySet()) {
                Person one = people.get(e.getKey());
                int most = e.getValue().stream().max(Comparator.naturalOrder()).get();
                boolean dislikes = one.disliked == whom && one.disliked != one.number;
                boolean believes = one.canBelieve(most, (dislikes ? 3 : 0) - (one.number == whom ? 5 : 0));
                if (believes) {
                    heard.believers.add(one.number);
                }
                if (heard.firstStep.putIfAbsent(one.number, step) != null) {
                    continue;
                }
                int passed = one.passes(most, believes);
                for (Person other : people) {
                    if (passed > 0 && one.tells(other.number, ties)) {
                        later.computeIfAbsent(other.number, k -> new ArrayList<>()).add(passed);
                    }
                }
            }
            coming.clear();
            coming.putAll(later);
        }
        return heard;
    }

    private static int bits(Iterable<Integer> numbers) {
        int set = 0;
        for (int n : numbers) {
            set |= 1 << n;
        }
        return set;
    }

    private static Set<Integer> members(int set) {
        Set<Integer> numbers = new TreeSet<>();
        for (int n = 0; n < 31; n++) {
            if ((set & 1 << n) != 0) {
                numbers.add(n);
            }
        }
        return numbers;
    }

    private static List<Integer> subsetsByCount(int of) {
        List<Integer> all = new ArrayList<>();
        for (int set = 0; set < 1 << of; set++) {
            all.add(set);
        }
        all.sort(Comparator.<Integer>comparingInt(Integer::bitCount).thenComparingInt(s -> s));
        return all;
    }

    private static final class Line {
        final int lane;
        final int[] items;

        Line(int lane, int n) {
            this.lane = lane;
            items = new int[n];
        }
    }

    private static final class Model {
        private static final Set<String> WITH_ROW = Set.of("row", "set", "copy", "drop", "malts", "who", "as");
        private World now = new World();
        final Line[] lines = new Line[8];
        final StringBuilder tape = new StringBuilder();
        final Deque<World> before = new ArrayDeque<>();
        final World[] images = new World[2];
        List<Integer> trace = new ArrayList<>();
        int fault = 0;
        int status = 0;

        long answer(int call, int[] a) {
            String name = CALL_NAMES[call];
            long answer;
            try {
                answer = answered(name, a);
            } catch (Refused r) {
                if (r.answer <= -1000011 && r.answer >= -1000015) {
                    status = -1000010 - r.answer;
                }
                return r.answer;
            }
            if (WITH_ROW.contains(name)) {
                status = 0;
            }
            return answer;
        }

        private long answered(String name, int[] a) {
            switch (name) {
                case "row": return row(a[0], a[1], a[2]);
                case "set": return set(a[0], a[1], a[2]);
                case "copy": return copy(a[0], a[1], a[2], a[3], a[4]);
                case "drop": return drop(a[0]);
                case "feed": return feed(a[0]);
                case "town": return town();
                case "fault": return fault;
                case "undo": return undo();
                case "brew": return brew(a[0], a[1]);
                case "days": return days(a[0]);
                case "tap": return tap(a[0], a[1]);
                case "water": return water(a[0]);
                case "blend": return blend(a[0], a[1]);
                case "cask": return cask(a[0], a[1]);
                case "drinker": return drinker(a[0], a[1]);
                case "rumour": return rumour(a[0]);
                case "telling": return telling(a[0], a[1], a[2]);
                case "fewest": return fewest(a[0], a[1], a[2], a[3]);
                case "silence": return silence(a[0], a[1], a[2], a[3]);
                case "malts": return malts(a[0], a[1], a[2], a[3]);
                case "who": return who(a[0], a[1], a[2], a[3], a[4]);
                case "goesOff": return goesOff(a[0], a[1]);
                case "best": return best(a[0], a[1]);
                case "blended": return blended(a[0], a[1], a[2]);
                case "silent": return silent(a[0], a[1], a[2], a[3], a[4]);
                case "drawn": return drawn(a[0], a[1], a[2]);
                case "image": return image(a[0]);
                case "restore": return restore(a[0]);
                case "kind": return kind(a[0]);
                case "as": return as(a[0], a[1]);
                case "ask": return ask(a[0], a[1]);
                case "trace": return a[0] >= 0 && a[0] < Math.min(16, trace.size()) ? trace.get(a[0]) : NONE;
                case "count": return count(a[0]);
                default: return status;
            }
        }

        private void need(boolean fine, int refusal) {
            if (!fine) {
                throw new Refused(refusal);
            }
        }

        private void within(int value, int least, int most) {
            need(least <= value && value <= most, BAD);
        }

        private void person(int one) {
            within(one, 0, now.people.size() - 1);
        }

        private void persons(int some) {
            within(some, 0, (1 << now.people.size()) - 1);
        }

        private Barrel there(int cask) {
            need(now.barrels.containsKey(cask), STATE);
            return now.barrels.get(cask);
        }

        private long row(int row, int lane, int n) {
            within(row, 0, 7);
            within(lane, 0, 2);
            within(n, Integer.MIN_VALUE, 40);
            need(n >= 0, -1000014);
            lines[row] = new Line(lane, n);
            return n;
        }

        private Line line(int row) {
            need(lines[row] != null, -1000011);
            return lines[row];
        }

        private void span(Line line, long i, long n) {
            need(i >= 0 && n >= 0 && i + n <= line.items.length, -1000012);
        }

        private long set(int row, int i, int v) {
            within(row, 0, 7);
            Line line = line(row);
            span(line, i, 1);
            int spare = 32 - (8 << line.lane);
            line.items[i] = v << spare >> spare;
            return line.items[i];
        }

        private long copy(int a, int i, int b, int j, int n) {
            within(a, 0, 7);
            within(b, 0, 7);
            Line from = line(a);
            Line to = line(b);
            need(from.lane == to.lane, -1000015);
            span(from, i, n);
            span(to, j, n);
            int[] ahead = from.items.clone();
            for (int k = 0; k < n; k++) {
                to.items[j + k] = ahead[i + k];
            }
            return n;
        }

        private long drop(int row) {
            within(row, 0, 7);
            int had = line(row).items.length;
            lines[row] = null;
            return had;
        }

        private long feed(int letter) {
            within(letter, 0, 255);
            need(tape.length() < 120, FULL);
            tape.append((char) letter);
            return tape.length();
        }

        /** The whole text at once against patterns that grow by a token: the first that no text goes on from. */
        private long town() {
            String text = tape.toString();
            tape.setLength(0);
            World read = new World();
            Matcher tokens = Pattern.compile("[0-9]+|.", Pattern.DOTALL).matcher(text);
            String expected = "o";
            int[] numbers = new int[3];
            char section = 'o';
            int have = 0;
            while (tokens.find()) {
                String token = tokens.group();
                boolean isNumber = token.matches("[0-9]{1,2}");
                if (expected.equals("N")) {
                    need(isNumber || fails(1), -1000100 - tokens.start());
                    numbers[have] = Integer.parseInt(token);
                    need(isAsTold(section, have, numbers, read) || fails(2), -1000100 - tokens.start());
                    have++;
                    int due = section == 'o' ? 3 : 2;
                    expected = have == due ? ";" : ",";
                } else if (expected.equals(",") || expected.equals(";")) {
                    need(token.equals(expected) || fails(1), -1000100 - tokens.start());
                    if (expected.equals(";")) {
                        add(section, numbers, read);
                        have = 0;
                    }
                    expected = expected.equals(",") ? "N" : "S";
                } else {
                    boolean stands = expected.equals("o") ? token.equals("o")
                            : token.matches("[dgwbr]") && section != 't'
                            || token.equals("t") && !read.people.isEmpty();
                    need(stands || fails(1), -1000100 - tokens.start());
                    boolean hasRoom = token.equals("o")
                            || (token.equals("t") ? read.ties.size() < 10 : read.people.size() < 6);
                    need(hasRoom || fails(3), -1000100 - tokens.start());
                    section = token.charAt(0);
                    expected = "N";
                }
            }
            need(expected.equals("S") && !read.people.isEmpty() || fails(1), -1000100 - text.length());
            now = read;
            before.clear();
            return read.people.size();
        }

        private boolean fails(int number) {
            fault = number;
            return false;
        }

        private static boolean isAsTold(char section, int have, int[] numbers, World read) {
            int n = numbers[have];
            if (section == 'o') {
                return have == 0 ? n <= 20 : have == 1 ? n >= 1 && n <= 40 : n <= 9;
            }
            if (section != 't') {
                return have == 0 ? n <= 12 : n <= 5;
            }
            boolean isNew = have == 0 || n != numbers[0]
                    && read.ties.stream().noneMatch(t -> t[0] == numbers[0] && t[1] == n);
            return n < read.people.size() && isNew;
        }

        private static void add(char section, int[] numbers, World read) {
            if (section == 'o') {
                read.oak = numbers[0];
                read.keeps = numbers[1];
                read.excise = numbers[2];
            } else if (section == 't') {
                read.ties.add(new int[] {numbers[0], numbers[1]});
            } else {
                int kind = " dgwbr".indexOf(section);
                read.people.add(ModelTest.person(kind, read.people.size(), numbers[0], numbers[1]));
            }
        }

        private void act() {
            before.addLast(now.another());
            if (before.size() > 24) {
                before.removeFirst();
            }
        }

        private long undo() {
            need(!before.isEmpty(), STATE);
            now = before.removeLast();
            return before.size();
        }

        private long brew(int whom, int malt) {
            person(whom);
            within(malt, 0, 20);
            need(now.barrels.size() < 4, FULL);
            act();
            int number = 0;
            while (now.barrels.containsKey(number)) {
                number++;
            }
            now.barrels.put(number, new Barrel(whom, malt, now.day));
            return number;
        }

        private long days(int n) {
            need(!now.people.isEmpty(), STATE);
            within(n, 1, 24);
            need(now.day + n <= 999, FULL);
            for (int k = 0; k < n; k++) {
                act();
                now.day++;
            }
            int off = 0;
            for (Map.Entry<Integer, Barrel> e : now.barrels.entrySet()) {
                off += now.day - e.getValue().brewed > now.keeps ? 1 << e.getKey() : 0;
            }
            return off;
        }

        private long tap(int cask, int one) {
            within(cask, 0, 3);
            person(one);
            there(cask);
            act();
            return now.tap(cask, one);
        }

        private long water(int cask) {
            within(cask, 0, 3);
            there(cask);
            act();
            Barrel b = there(cask);
            b.malt >>= 1;
            return b.malt;
        }

        private long blend(int cask, int into) {
            within(cask, 0, 3);
            within(into, 0, 3);
            need(cask != into, BAD);
            there(cask);
            there(into);
            act();
            there(into).malt = Math.min(20, there(into).malt + there(cask).malt);
            now.barrels.remove(cask);
            return there(into).malt;
        }

        private long cask(int cask, int what) {
            within(cask, 0, 3);
            within(what, 0, 4);
            need(now.barrels.containsKey(cask), NONE);
            Barrel b = there(cask);
            int age = now.day - b.brewed;
            return new int[] {b.whom, b.malt, age, now.strong(b), age > now.keeps ? 1 : 0}[what];
        }

        private long drinker(int one, int what) {
            person(one);
            within(what, 0, 2);
            int tells = 0;
            for (int[] tie : now.ties) {
                tells |= tie[0] == one ? 1 << tie[1] : 0;
            }
            return new int[] {now.people.get(one).doubt, now.people.get(one).disliked, tells}[what];
        }

        private long rumour(int whom) {
            person(whom);
            return now.notes.stream().filter(n -> n.get(0) == whom).mapToInt(n -> 1 << n.get(1)).sum();
        }

        private Heard heard(int cask, int some) {
            Barrel b = there(cask);
            return hear(now.people, now.ties, b.whom, now.strong(b), members(some));
        }

        private long telling(int cask, int some, int what) {
            within(cask, 0, 3);
            persons(some);
            need(some != 0, BAD);
            within(what, 0, 3);
            Heard heard = heard(cask, some);
            int steps = heard.firstStep.values().stream().max(Comparator.naturalOrder()).get();
            return new int[] {bits(heard.believers), bits(heard.firstStep.keySet()), steps,
                now.excise * heard.firstStep.size()}[what];
        }

        private long fewest(int cask, int to, int not, int what) {
            within(cask, 0, 3);
            persons(to);
            persons(not);
            need((to & not) == 0, BAD);
            within(what, 0, 1);
            there(cask);
            for (int some : subsetsByCount(now.people.size())) {
                Set<Integer> believers = heard(cask, some).believers;
                if (believers.containsAll(members(to)) && members(not).stream().noneMatch(believers::contains)) {
                    return what == 0 ? Integer.bitCount(some) : some;
                }
            }
            return NONE;
        }

        private List<int[]> tiesWithout(int without) {
            List<int[]> left = new ArrayList<>();
            for (int k = 0; k < now.ties.size(); k++) {
                if (!members(without).contains(k)) {
                    left.add(now.ties.get(k));
                }
            }
            return left;
        }

        private long silence(int cask, int from, int other, int what) {
            within(cask, 0, 3);
            person(from);
            person(other);
            need(from != other, BAD);
            within(what, 0, 1);
            Barrel b = there(cask);
            for (int without : subsetsByCount(now.ties.size())) {
                Heard heard = hear(now.people, tiesWithout(without), b.whom, now.strong(b), Set.of(from));
                if (!heard.firstStep.containsKey(other)) {
                    return what == 0 ? Integer.bitCount(without) : without;
                }
            }
            return NONE;
        }

        private int[] taps(int row, int i, int n) {
            Line line = line(row);
            span(line, i, 2L * n);
            int[] taps = Arrays.copyOfRange(line.items, i, i + 2 * n);
            for (int k = 0; k < 2 * n; k += 2) {
                person(taps[k]);
            }
            return taps;
        }

        private boolean fits(List<Person> people, int whom, int strong, int[] taps) {
            for (int k = 0; k < taps.length; k += 2) {
                if (bits(hear(people, now.ties, whom, strong, Set.of(taps[k])).believers) != taps[k + 1]) {
                    return false;
                }
            }
            return true;
        }

        private long malts(int cask, int row, int i, int n) {
            within(cask, 0, 3);
            within(row, 0, 7);
            within(n, 1, 6);
            Barrel b = there(cask);
            int[] taps = taps(row, i, n);
            int set = 0;
            for (int malt = 0; malt <= 20; malt++) {
                set |= fits(now.people, b.whom, now.strong(malt, now.day - b.brewed), taps) ? 1 << malt : 0;
            }
            return set;
        }

        private long who(int one, int cask, int row, int i, int n) {
            person(one);
            within(cask, 0, 3);
            within(row, 0, 7);
            within(n, 1, 6);
            Barrel b = there(cask);
            int[] taps = taps(row, i, n);
            int set = 0;
            for (int kind = 1; kind <= 5; kind++) {
                List<Person> people = new ArrayList<>(now.people);
                Person as = people.get(one);
                people.set(one, ModelTest.person(kind, one, as.doubt, as.disliked));
                set |= fits(people, b.whom, now.strong(b), taps) ? 1 << kind : 0;
            }
            return set;
        }

        private long goesOff(int cask, int what) {
            within(cask, 0, 3);
            within(what, 0, 1);
            Barrel b = there(cask);
            int in = 0;
            while (what == 0 ? now.day + in - b.brewed <= now.keeps : now.day + in - b.brewed < now.oak) {
                in++;
            }
            return in;
        }

        private long best(int cask, int what) {
            within(cask, 0, 3);
            within(what, 0, 1);
            there(cask);
            List<Integer> many = new ArrayList<>();
            for (Person one : now.people) {
                many.add(heard(cask, 1 << one.number).believers.size());
            }
            int most = many.stream().max(Comparator.naturalOrder()).get();
            return what == 0 ? many.indexOf(most) : most;
        }

        private long blended(int cask, int into, int one) {
            within(cask, 0, 3);
            within(into, 0, 3);
            need(cask != into, BAD);
            person(one);
            there(cask);
            there(into);
            World then = now;
            now = then.another();
            there(into).malt = Math.min(20, there(cask).malt + there(into).malt);
            int many = Integer.bitCount(now.tap(into, one));
            now = then;
            return many;
        }

        private BigInteger cases(int k, List<int[]> ties, Barrel b, int from, int other, int p) {
            if (k == now.ties.size()) {
                boolean believes = hear(now.people, ties, b.whom, now.strong(b), Set.of(from)).believers.contains(other);
                return believes ? BigInteger.ONE : BigInteger.ZERO;
            }
            List<int[]> with = new ArrayList<>(ties);
            with.add(now.ties.get(k));
            BigInteger without = cases(k + 1, ties, b, from, other, p).multiply(BigInteger.valueOf(p));
            return without.add(cases(k + 1, with, b, from, other, p).multiply(BigInteger.valueOf(10 - p)));
        }

        private long silent(int cask, int from, int other, int p, int what) {
            within(cask, 0, 3);
            person(from);
            person(other);
            need(from != other, BAD);
            within(p, 0, 10);
            within(what, 0, 1);
            BigInteger above = cases(0, List.of(), there(cask), from, other, p);
            BigInteger below = BigInteger.TEN.pow(now.ties.size());
            BigInteger common = above.gcd(below);
            return (what == 0 ? above : below).divide(common).longValueExact();
        }

        private long drawn(int n, int seed, int what) {
            need(!now.people.isEmpty(), STATE);
            within(n, 0, 60);
            within(seed, 1, 999999);
            within(what, 0, 1);
            World then = now.another();
            BigInteger x = BigInteger.valueOf(seed);
            for (int k = 0; k < n; k++) {
                x = x.multiply(BigInteger.valueOf(16807)).mod(BigInteger.valueOf(2147483647));
                int cask = x.mod(BigInteger.valueOf(4)).intValue();
                if (then.barrels.containsKey(cask)) {
                    then.tap(cask, x.mod(BigInteger.valueOf(then.people.size())).intValue());
                }
                then.day++;
            }
            return what == 0 ? then.notes.size() : then.barrels.values().stream().mapToInt(b -> b.malt).sum();
        }

        private long image(int k) {
            within(k, 0, 1);
            need(!now.people.isEmpty(), STATE);
            images[k] = now.another();
            return 1;
        }

        private long restore(int k) {
            within(k, 0, 1);
            need(images[k] != null, STATE);
            now = images[k].another();
            before.clear();
            return 1;
        }

        private long kind(int one) {
            person(one);
            return CLASSES.indexOf(now.people.get(one).getClass());
        }

        private long as(int one, int kind) {
            person(one);
            within(kind, 0, 5);
            need(CLASSES.get(kind).isInstance(now.people.get(one)), -1000013);
            return one;
        }

        private long ask(int one, int what) {
            person(one);
            within(what, 0, 1);
            trace = new ArrayList<>();
            Person asked = now.people.get(one);
            asked.trace = trace;
            return what == 0 ? asked.size() : asked.mark();
        }

        private long count(int what) {
            within(what, 0, 7);
            int there = 0;
            for (Line line : lines) {
                there += line == null ? 0 : 1;
            }
            return new int[] {there, now.people.size(), now.ties.size(), now.barrels.size(), now.day,
                now.notes.size(), before.size(), tape.length()}[what];
        }
    }
}
