import java.math.BigInteger;
import java.util.ArrayDeque;
import java.util.ArrayList;
import java.util.Arrays;
import java.util.Deque;
import java.util.HashMap;
import java.util.List;
import java.util.Map;
import java.util.TreeSet;
import java.util.function.Function;
import java.util.regex.Matcher;
import java.util.regex.Pattern;

/**
 * The document read a second time, with lists and sets and no thought of speed or room: ModelTest holds
 * NoticeWeek against it. Nothing here is shared with the program.
 */
final class Model {
    static final int NONE = -1000000, BAD = -1000001, STATE = -1000002, FULL = -1000003;

    record Person(char sort, TreeSet<Integer> did, TreeSet<Integer> notice, int left) {
        Person copyOf() {
            return new Person(sort, new TreeSet<>(did), new TreeSet<>(notice), left);
        }

        Person as(char otherSort) {
            return new Person(otherSort, did, notice, left);
        }

        Person telling(int bits) {
            return new Person(sort, did, setOf(bits), left);
        }

        Person denying(int bits) {
            TreeSet<Integer> rest = new TreeSet<>(did);
            rest.removeAll(setOf(bits));
            return new Person(sort, rest, notice, left);
        }

        int falseLines() {
            int many = 0;
            for (int deed = 0; deed < 6; deed++) {
                many += did.contains(deed) != notice.contains(deed) ? 1 : 0;
            }
            return many;
        }

        TreeSet<Integer> wouldDo(int day) {
            TreeSet<Integer> told = new TreeSet<>(notice);
            told.removeAll(did);
            TreeSet<Integer> untold = setOf(63);
            untold.removeAll(notice);
            untold.removeAll(did);
            TreeSet<Integer> does = new TreeSet<>();
            if (left == 0) {
                return does;
            }
            switch (sort) {
                case 'p' -> told.stream().limit(1).forEach(does::add);
                case 'v' -> told.stream().limit(2).forEach(does::add);
                case 's' -> told.stream().limit(told.size() > 2 ? 0 : 1).forEach(does::add);
                case 'c' -> untold.stream().limit(1).forEach(does::add);
                default -> untold.stream().limit(1 - day % 2).forEach(does::add);
            }
            return does;
        }

        Person behindOne(int day) {
            TreeSet<Integer> done = new TreeSet<>(did);
            done.addAll(wouldDo(day));
            return new Person(sort, done, notice, Math.max(0, left - 1));
        }

        Person behind(int day, int d) {
            Person one = this;
            for (int i = 0; i < d; i++) {
                one = one.behindOne(day + i);
            }
            return one;
        }
    }

    record State(int lines, int day, List<Person> people) {
        State copyOf() {
            return new State(lines, day, new ArrayList<>(people.stream().map(Person::copyOf).toList()));
        }
    }

    private static final String SORTS = "?pvsck";
    private static final Map<Integer, Integer> IS_A = Map.of(1, 0, 2, 1, 3, 1, 4, 0, 5, 4);

    private final Map<Integer, Object> rows = new HashMap<>();
    private final StringBuilder tape = new StringBuilder();
    private State town = null;
    private final Deque<State> acts = new ArrayDeque<>();
    private final State[] images = new State[2];
    private final List<Integer> trace = new ArrayList<>();
    private int fault = 0;
    private int status = 0;

    private static TreeSet<Integer> setOf(int bits) {
        TreeSet<Integer> set = new TreeSet<>();
        for (int deed = 0; deed < 6; deed++) {
            if ((bits & 1 << deed) != 0) {
                set.add(deed);
            }
        }
        return set;
    }

    private static int bitsOf(Iterable<Integer> set) {
        int bits = 0;
        for (int deed : set) {
            bits += 1 << deed;
        }
        return bits;
    }

    private static boolean in(int value, int from, int to) {
        return from <= value && value <= to;
    }

    private boolean isReader(int reader) {
        return town != null && in(reader, 0, town.people.size() - 1);
    }

    private Person person(int reader) {
        return town.people.get(reader);
    }

    private int found(int number) {
        status = number;
        return -1000010 - number;
    }

    private int well(int answer) {
        status = 0;
        return answer;
    }

    int row(int row, int lane, int n) {
        if (!in(row, 0, 7) || !in(lane, 0, 2) || n > 40) return BAD;
        if (n < 0) return found(4);
        rows.put(row, lane == 0 ? new byte[n] : lane == 1 ? new short[n] : new int[n]);
        return well(n);
    }

    int set(int row, int i, int v) {
        if (!in(row, 0, 7)) return BAD;
        Object array = rows.get(row);
        try {
            if (array instanceof byte[] bytes) bytes[i] = (byte) v;
            else if (array instanceof short[] shorts) shorts[i] = (short) v;
            else if (array instanceof int[] ints) ints[i] = v;
            else return found(1);
        } catch (ArrayIndexOutOfBoundsException e) {
            return found(2);
        }
        return well(java.lang.reflect.Array.getInt(array, i));
    }

    int copy(int a, int i, int b, int j, int n) {
        if (!in(a, 0, 7) || !in(b, 0, 7)) return BAD;
        try {
            System.arraycopy(rows.get(a), i, rows.get(b), j, n);
        } catch (NullPointerException e) {
            return found(1);
        } catch (ArrayStoreException e) {
            return found(5);
        } catch (ArrayIndexOutOfBoundsException e) {
            return found(2);
        }
        return well(n);
    }

    int drop(int row) {
        if (!in(row, 0, 7)) return BAD;
        Object array = rows.remove(row);
        return array == null ? found(1) : well(java.lang.reflect.Array.getLength(array));
    }

    int feed(int letter) {
        if (!in(letter, 0, 255)) return BAD;
        if (tape.length() == 120) return FULL;
        tape.append((char) letter);
        return tape.length();
    }

    int town() {
        String text = tape.toString();
        tape.setLength(0);
        List<String> tokens = new ArrayList<>();
        List<Integer> places = new ArrayList<>();
        Matcher matcher = Pattern.compile("[0-9]+|(?s).").matcher(text);
        while (matcher.find()) {
            tokens.add(matcher.group());
            places.add(matcher.start());
        }
        tokens.add("");
        places.add(text.length());
        List<Integer> numbers = new ArrayList<>();
        StringBuilder sorts = new StringBuilder();
        for (int t = 0; t < tokens.size(); t++) {
            int flaw = flawOf(tokens.get(t), t, sorts, numbers);
            if (flaw > 0) {
                fault = flaw;
                return -1000100 - places.get(t);
            }
        }
        List<Person> people = new ArrayList<>();
        for (int r = 0; r < sorts.length(); r++) {
            people.add(new Person(sorts.charAt(r), setOf(numbers.get(3 * r + 1)), setOf(numbers.get(3 * r + 2)),
                    numbers.get(3 * r + 3)));
        }
        town = new State(numbers.get(0), 0, people);
        acts.clear();
        return people.size();
    }

    /** What may stand at token t: w N ; then again and again S N , N , N ; - the end where an S may stand. */
    private static int flawOf(String token, int t, StringBuilder sorts, List<Integer> numbers) {
        String shape = t < 3 ? "wN;" : "SN,N,N;";
        int at = t < 3 ? t : (t - 3) % 7;
        char form = shape.charAt(at);
        if (form == 'S') {
            if (token.isEmpty()) return 0;
            if (!token.matches("[pvsck]")) return 1;
            if (sorts.length() == 6) return 3;
            sorts.append(token);
            return 0;
        }
        if (form == 'N') {
            if (!token.matches("[0-9]{1,2}")) return 1;
            numbers.add(Integer.parseInt(token));
            int most = t < 3 ? 36 : at == 5 ? 60 : 63;
            return Integer.parseInt(token) > most ? 2 : 0;
        }
        return token.equals("" + form) ? 0 : 1;
    }

    int fault() {
        return fault;
    }

    private void act(State next) {
        acts.addLast(town.copyOf());
        if (acts.size() > 24) acts.removeFirst();
        town = next;
    }

    private void actOn(int reader, Person next) {
        State changed = town.copyOf();
        changed.people.set(reader, next);
        act(changed);
    }

    int days(int n) {
        if (town == null) return STATE;
        if (!in(n, 1, 20)) return BAD;
        if (town.day + n > 999) return FULL;
        for (int i = 0; i < n; i++) {
            int day = town.day;
            act(new State(town.lines, day + 1, new ArrayList<>(town.people.stream().map(p -> p.behindOne(day)).toList())));
        }
        int bits = 0;
        for (int r = 0; r < town.people.size(); r++) {
            bits += person(r).left > 0 ? 1 << r : 0;
        }
        return bits;
    }

    int write(int reader, int notice) {
        if (!isReader(reader) || !in(notice, 0, 63)) return BAD;
        if (person(reader).left == 0) return STATE;
        int before = bitsOf(person(reader).notice);
        actOn(reader, person(reader).telling(notice));
        return before;
    }

    int deny(int reader, int deed) {
        if (!isReader(reader) || !in(deed, 0, 5)) return BAD;
        if (!person(reader).did.contains(deed)) return STATE;
        actOn(reader, person(reader).denying(1 << deed));
        return bitsOf(person(reader).did);
    }

    int spare(int reader, int n) {
        if (!isReader(reader) || !in(n, 1, 60)) return BAD;
        Person one = person(reader);
        if (one.left == 0) return STATE;
        actOn(reader, new Person(one.sort, one.did, one.notice, Math.min(60, one.left + n)));
        return person(reader).left;
    }

    int undo() {
        if (acts.isEmpty()) return STATE;
        town = acts.removeLast();
        return acts.size();
    }

    int reader(int reader, int what) {
        if (!isReader(reader) || !in(what, 0, 4)) return BAD;
        Person one = person(reader);
        return List.of(bitsOf(one.did), bitsOf(one.notice), one.left, one.falseLines(), bitsOf(one.wouldDo(town.day))).get(what);
    }

    int deeds(int reader, int d) {
        if (!isReader(reader) || !in(d, 0, 60)) return BAD;
        return bitsOf(person(reader).behind(town.day, d).did);
    }

    int lines(int reader, int d) {
        if (!isReader(reader) || !in(d, 0, 60)) return BAD;
        return person(reader).behind(town.day, d).falseLines();
    }

    int dead(int d) {
        if (town == null) return STATE;
        if (!in(d, 0, 60)) return BAD;
        int bits = 0;
        for (int r = 0; r < town.people.size(); r++) {
            bits += person(r).behind(town.day, d).left == 0 ? 1 << r : 0;
        }
        return bits;
    }

    private Person atDeath(Person one) {
        return one.behind(town.day, one.left);
    }

    int ends(int reader) {
        return isReader(reader) ? atDeath(person(reader)).falseLines() : BAD;
    }

    int first(int what) {
        if (town == null) return STATE;
        if (!in(what, 0, 1)) return BAD;
        for (int d = 1; d <= 60; d++) {
            for (int r = 0; r < town.people.size(); r++) {
                if (person(r).left == d && ends(r) != 0) return what == 0 ? r : d;
            }
        }
        return NONE;
    }

    int toWrite(int reader, int deeds, int what) {
        if (!isReader(reader) || !in(deeds, 0, 63) || !in(what, 0, 1)) return BAD;
        if (person(reader).left == 0) return STATE;
        for (int lines = 0; lines <= 6; lines++) {
            for (int notice = 0; notice < 64; notice++) {
                Person end = atDeath(person(reader).telling(notice));
                if (end.did.containsAll(setOf(deeds)) && end.falseLines() == lines) return what == 0 ? lines : notice;
            }
        }
        return NONE;
    }

    int toDeny(int reader, int what) {
        if (!isReader(reader) || !in(what, 0, 1)) return BAD;
        for (int many = 0; many <= 6; many++) {
            for (int some = 0; some < 64; some++) {
                boolean all = setOf(some).size() == many && person(reader).did.containsAll(setOf(some));
                if (all && atDeath(person(reader).denying(some)).falseLines() == 0) return what == 0 ? many : some;
            }
        }
        return NONE;
    }

    int print(int what) {
        if (town == null) return STATE;
        if (!in(what, 0, 1)) return BAD;
        for (int deeds = 36; deeds >= 0; deeds--) {
            for (int many = 0; many <= 6; many++) {
                for (int some = 0; some < 1 << town.people.size(); some++) {
                    TreeSet<Integer> who = setOf(some);
                    int lines = who.stream().mapToInt(r -> person(r).notice.size()).sum();
                    int done = who.stream().mapToInt(r -> (int) person(r).notice.stream().filter(person(r).did::contains).count()).sum();
                    if (who.size() == many && lines <= town.lines && done == deeds) return what == 0 ? deeds : some;
                }
            }
        }
        throw new IllegalStateException("none printed is always possible");
    }

    /** 0, or the FINDING of ITEMS that cannot be taken from a ROW. */
    private int findingOfItems(int row, int i, int n) {
        Object array = rows.get(row);
        if (array == null) return 1;
        long end = (long) i + n;
        return i < 0 || end > java.lang.reflect.Array.getLength(array) ? 2 : 0;
    }

    private boolean isSo(Person one, int row, int i, int n) {
        for (int d = 1; d <= n; d++) {
            if (java.lang.reflect.Array.getInt(rows.get(row), i + d - 1) != bitsOf(one.behind(town.day, d).did)) return false;
        }
        return true;
    }

    int temper(int reader, int row, int i, int n) {
        if (!isReader(reader) || !in(row, 0, 7) || !in(n, 1, 16)) return BAD;
        int flaw = findingOfItems(row, i, n);
        if (flaw > 0) return found(flaw);
        int kinds = 0;
        for (int kind = 1; kind <= 5; kind++) {
            kinds += isSo(person(reader).as(SORTS.charAt(kind)), row, i, n) ? 1 << kind : 0;
        }
        return well(kinds);
    }

    int told(int reader, int row, int i, int n, int what) {
        if (!isReader(reader) || !in(row, 0, 7) || !in(n, 1, 16) || !in(what, 0, 1)) return BAD;
        int flaw = findingOfItems(row, i, n);
        if (flaw > 0) return found(flaw);
        List<Integer> notices = new ArrayList<>();
        for (int notice = 0; notice < 64; notice++) {
            if (isSo(person(reader).telling(notice), row, i, n)) notices.add(notice);
        }
        return well(what == 0 ? notices.size() : notices.isEmpty() ? NONE : notices.get(0));
    }

    int odds(int k, int c, int what) {
        if (town == null) return STATE;
        if (!in(k, 0, 6) || !in(c, 0, 10) || !in(what, 0, 1)) return BAD;
        BigInteger above = BigInteger.ZERO;
        BigInteger below = BigInteger.ONE;
        List<Integer> living = new ArrayList<>();
        for (int r = 0; r < town.people.size(); r++) {
            if (person(r).left > 0) living.add(r);
        }
        for (int some = 0; some < 1 << living.size(); some++) {
            TreeSet<Integer> dying = new TreeSet<>();
            BigInteger weight = BigInteger.ONE;
            for (int j = 0; j < living.size(); j++) {
                boolean dies = (some & 1 << j) != 0;
                weight = weight.multiply(BigInteger.valueOf(dies ? c : 10 - c));
                if (dies) dying.add(living.get(j));
            }
            int many = 0;
            for (int r = 0; r < town.people.size(); r++) {
                Person end = dying.contains(r) ? person(r) : atDeath(person(r));
                many += end.falseLines() == 0 ? 1 : 0;
            }
            if (many >= k) above = above.add(weight);
        }
        below = BigInteger.TEN.pow(living.size());
        BigInteger common = above.gcd(below);
        return (what == 0 ? above : below).divide(common).intValueExact();
    }

    int image(int k) {
        if (!in(k, 0, 1)) return BAD;
        if (town == null) return STATE;
        images[k] = town.copyOf();
        return 1;
    }

    int restore(int k) {
        if (!in(k, 0, 1)) return BAD;
        if (images[k] == null) return STATE;
        town = images[k].copyOf();
        acts.clear();
        return 1;
    }

    int kind(int reader) {
        return isReader(reader) ? SORTS.indexOf(person(reader).sort) : BAD;
    }

    int as(int reader, int kind) {
        if (!isReader(reader) || !in(kind, 0, 5)) return BAD;
        for (Integer is = kind(reader); is != null; is = IS_A.get(is)) {
            if (is == kind) return well(reader);
        }
        return found(3);
    }

    /** BODIES by KIND and number; a KIND without one takes that of the KIND that it is, too. */
    private static final Map<Integer, Integer> SIZES = Map.of(0, 10, 1, 11, 2, 12, 4, 13, 5, 14);
    private static final Map<Integer, Integer> MARKS = Map.of(0, 20, 1, 21, 3, 22, 4, 23, 2, 24);

    private int begin(Map<Integer, Integer> bodies, int reader) {
        Integer kind = kind(reader);
        while (!bodies.containsKey(kind)) {
            kind = IS_A.get(kind);
        }
        return body(bodies.get(kind), reader);
    }

    private int body(int number, int reader) {
        if (trace.size() < 16) trace.add(number);
        Person one = person(reader);
        Function<Integer, Integer> gives = other -> body(other, reader);
        return switch (number) {
            case 10 -> one.notice.size();
            case 11 -> gives.apply(10) + begin(MARKS, reader);
            case 12 -> 0 - gives.apply(11);
            case 13 -> gives.apply(10) - 100;
            case 14 -> gives.apply(13) * 2;
            case 20 -> reader;
            case 21 -> gives.apply(20) + one.did.size();
            case 22 -> gives.apply(21) - 1000;
            case 23 -> gives.apply(20) - begin(SIZES, reader);
            default -> gives.apply(21) * 2;
        };
    }

    int ask(int reader, int what) {
        if (!isReader(reader) || !in(what, 0, 1)) return BAD;
        trace.clear();
        return begin(what == 0 ? SIZES : MARKS, reader);
    }

    int trace(int i) {
        return in(i, 0, trace.size() - 1) ? trace.get(i) : NONE;
    }

    int count(int what) {
        if (!in(what, 0, 7)) return BAD;
        List<Person> people = town == null ? List.of() : town.people;
        return Arrays.asList(rows.size(), people.size(), (int) people.stream().filter(p -> p.left > 0).count(),
                town == null ? 0 : town.day, town == null ? 0 : town.lines,
                (int) people.stream().filter(p -> p.falseLines() == 0).count(), acts.size(), tape.length()).get(what);
    }

    int status() {
        return status;
    }
}
