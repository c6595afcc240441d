import java.math.BigInteger;
import java.util.ArrayList;
import java.util.List;

/**
 * Long runs of calls against a model that keeps every reading in a list and works each answer out anew, by ways
 * of its own: readings left out one by one, equations solved by elimination over fractions, mean classes by the
 * greatest of least means. The runs are the same each time.
 */
public final class ModelTests {
  private static final int RUNS = 1500;
  // What an object answers after its 512th call is free.
  private static final int MOST_CALLS = 512;
  private static int wrong = 0;

  record Fraction(BigInteger above, BigInteger below) implements Comparable<Fraction> {
    static Fraction of(long above, long below) {
      return of(BigInteger.valueOf(above), BigInteger.valueOf(below));
    }

    static Fraction of(BigInteger above, BigInteger below) {
      BigInteger g = above.gcd(below);
      if (below.signum() < 0) g = g.negate();
      return new Fraction(above.divide(g), below.divide(g));
    }

    Fraction plus(Fraction o) {
      return of(above.multiply(o.below).add(o.above.multiply(below)), below.multiply(o.below));
    }

    Fraction minus(Fraction o) {
      return plus(new Fraction(o.above.negate(), o.below));
    }

    Fraction times(Fraction o) {
      return of(above.multiply(o.above), below.multiply(o.below));
    }

    Fraction over(Fraction o) {
      return of(above.multiply(o.below), below.multiply(o.above));
    }

    Fraction size() {
      return new Fraction(above.abs(), below);
    }

    boolean isZero() {
      return above.signum() == 0;
    }

    @Override
    public int compareTo(Fraction o) {
      return above.multiply(o.below).compareTo(o.above.multiply(below));
    }
  }

  private static final Fraction ZERO = Fraction.of(0, 1);

  record Reading(int cls, int age, int place) {}

  /** The document, word by word. A null fraction stands for NONE. */
  static final class Model {
    final int classes;
    final int ages;
    final List<Reading> readings = new ArrayList<>();
    final List<List<Integer>> groups = new ArrayList<>();
    // The fills as pairs of groups; groups are told apart by their lists.
    final List<List<List<Integer>>> fills = new ArrayList<>();
    int chosen = -1;
    final long[] measured;
    final int[][] errors;
    final int[] males;
    final int[] looked;

    Model(int classes, int ages) {
      this.classes = classes < 1 ? 1 : classes > 10 ? 10 : classes;
      this.ages = ages < 1 ? 1 : ages > 6 ? 6 : ages;
      for (int c = 0; c < this.classes; c++) groups.add(new ArrayList<>(List.of(c)));
      measured = new long[this.classes];
      errors = new int[this.ages][this.ages];
      for (int a = 0; a < this.ages; a++) errors[a][a] = 20;
      males = new int[this.classes];
      looked = new int[this.classes];
    }

    boolean noClass(int c) { return c < 0 || c >= classes; }

    boolean noAge(int a) { return a < 0 || a >= ages; }

    List<Integer> group(int cls) {
      for (List<Integer> g : groups) if (g.contains(cls)) return g;
      throw new IllegalStateException("no group of class " + cls);
    }

    static int least(List<Integer> group) {
      int least = group.get(0);
      for (int c : group) least = Math.min(least, c);
      return least;
    }

    List<List<Integer>> groupsInOrder() {
      List<List<Integer>> all = new ArrayList<>(groups);
      all.sort((a, b) -> Integer.compare(least(a), least(b)));
      return all;
    }

    List<Reading> key() {
      List<Reading> key = new ArrayList<>();
      for (Reading r : readings) if (chosen == -1 || r.place == chosen) key.add(r);
      return key;
    }

    List<Reading> own(List<Integer> group) {
      List<Reading> own = new ArrayList<>();
      for (Reading r : key()) if (group.contains(r.cls)) own.add(r);
      return own;
    }

    int ofAllPlaces(List<Integer> group) {
      int n = 0;
      for (Reading r : readings) if (group.contains(r.cls)) n++;
      return n;
    }

    List<Integer> filler(List<Integer> group) {
      for (List<List<Integer>> f : fills) if (f.get(0) == group) return f.get(1);
      return null;
    }

    static Fraction shareAmong(List<Reading> some, int age) {
      if (some.isEmpty()) return null;
      int n = 0;
      for (Reading r : some) if (r.age == age) n++;
      return Fraction.of(n, some.size());
    }

    boolean read(int cls, int age, int place) {
      if (noClass(cls) || noAge(age) || place < 0 || place > 3) return false;
      if (ofAllPlaces(group(cls)) + 1 > 20 || readings.size() + 1 > 100) return false;
      readings.add(new Reading(cls, age, place));
      return true;
    }

    int place(int p) {
      if (p < -1 || p > 3) return -1;
      chosen = p;
      return key().size();
    }

    Fraction share(int cls, int age) {
      if (noClass(cls) || noAge(age)) return null;
      List<Reading> own = own(group(cls));
      if (!own.isEmpty()) return shareAmong(own, age);
      List<Integer> by = filler(group(cls));
      return by == null ? null : shareAmong(own(by), age);
    }

    int empty(int k) {
      List<Integer> found = new ArrayList<>();
      for (List<Integer> g : groupsInOrder()) if (own(g).isEmpty() && filler(g) == null) found.add(least(g));
      return k >= 0 && k < found.size() ? found.get(k) : -1;
    }

    int fill(int cls) {
      if (noClass(cls) || !own(group(cls)).isEmpty()) return -1;
      List<Integer> mine = group(cls);
      List<Integer> best = null;
      int bestDistance = 0;
      for (List<Integer> g : groupsInOrder()) {
        if (own(g).isEmpty()) continue;
        int distance = 99;
        for (int a : g) for (int b : mine) distance = Math.min(distance, Math.abs(a - b));
        if (best == null || distance < bestDistance) {
          best = g;
          bestDistance = distance;
        }
      }
      if (best == null) return -1;
      fills.removeIf(f -> f.get(0) == mine);
      fills.add(List.of(mine, best));
      return least(best);
    }

    boolean marked(int cls) {
      return !noClass(cls) && filler(group(cls)) != null && own(group(cls)).isEmpty();
    }

    int joined(int a, int b) {
      if (noClass(a) || noClass(b) || group(a) == group(b)) return -1;
      List<Integer> ga = group(a);
      List<Integer> gb = group(b);
      if (ofAllPlaces(ga) + ofAllPlaces(gb) > 20) return -1;
      List<Integer> both = new ArrayList<>(ga);
      both.addAll(gb);
      fills.removeIf(f -> f.get(0) == ga || f.get(0) == gb || f.get(1) == ga || f.get(1) == gb);
      groups.removeIf(g -> g == ga || g == gb);
      groups.add(both);
      return least(both);
    }

    long measuredInAll() {
      long sum = 0;
      for (long m : measured) sum += m;
      return sum;
    }

    boolean sample(int cls, long n) {
      if (noClass(cls) || n < 0 || n > 10000 || measuredInAll() + n > 10000) return false;
      measured[cls] += n;
      return true;
    }

    Fraction raised(long number, int age) {
      if (number < 0 || number > 10000 || noAge(age) || measuredInAll() == 0) return null;
      Fraction sum = ZERO;
      for (int c = 0; c < classes; c++) {
        if (measured[c] == 0) continue;
        Fraction share = share(c, age);
        if (share == null) return null;
        sum = sum.plus(Fraction.of(measured[c], measuredInAll()).times(share));
      }
      return sum.times(Fraction.of(number, 1));
    }

    boolean sums(long number) {
      Fraction sum = ZERO;
      for (int a = 0; a < ages; a++) {
        Fraction one = raised(number, a);
        if (one == null) return false;
        sum = sum.plus(one);
      }
      return sum.equals(Fraction.of(number, 1));
    }

    Fraction without(int cls, int age, int end) {
      if (noClass(cls) || noAge(age) || (end != 0 && end != 1)) return null;
      List<Reading> own = own(group(cls));
      if (own.size() < 2) return null;
      Fraction best = null;
      for (int i = 0; i < own.size(); i++) {
        List<Reading> rest = new ArrayList<>(own);
        rest.remove(i);
        Fraction share = shareAmong(rest, age);
        if (best == null || (end == 0 ? share.compareTo(best) < 0 : share.compareTo(best) > 0)) best = share;
      }
      return best;
    }

    boolean error(int from, int to, int twentieths) {
      if (noAge(from) || noAge(to) || twentieths < 0 || twentieths > 20) return false;
      errors[from][to] = twentieths;
      return true;
    }

    /** The true numbers that come of what is read, by elimination; null when there is not one answer. */
    Fraction[] solved(int[] read) {
      Fraction[][] m = new Fraction[ages][ages + 1];
      for (int to = 0; to < ages; to++) {
        for (int from = 0; from < ages; from++) m[to][from] = Fraction.of(errors[from][to], 1);
        m[to][ages] = Fraction.of(20L * read[to], 1);
      }
      for (int k = 0; k < ages; k++) {
        int p = k;
        while (p < ages && m[p][k].isZero()) p++;
        if (p == ages) return null;
        Fraction[] held = m[p];
        m[p] = m[k];
        m[k] = held;
        for (int r = 0; r < ages; r++) {
          if (r == k || m[r][k].isZero()) continue;
          Fraction times = m[r][k].over(m[k][k]);
          for (int c = k; c <= ages; c++) m[r][c] = m[r][c].minus(m[k][c].times(times));
        }
      }
      Fraction[] answer = new Fraction[ages];
      for (int k = 0; k < ages; k++) answer[k] = m[k][ages].over(m[k][k]);
      return answer;
    }

    int undo() {
      for (int[] row : errors) {
        int sum = 0;
        for (int e : row) sum += e;
        if (sum != 20) return 2;
      }
      return solved(new int[ages]) == null ? 1 : 0;
    }

    Fraction undone(int cls, int age) {
      if (noClass(cls) || noAge(age) || undo() != 0) return null;
      int[] read = new int[ages];
      for (Reading r : own(group(cls))) read[r.age]++;
      return solved(read)[age];
    }

    Fraction apart(int a, int b) {
      if (a < 0 || a > 3 || b < 0 || b > 3) return null;
      int[][][] n = new int[4][classes][ages];
      int[] all = new int[4];
      for (Reading r : readings) {
        n[r.place][r.cls][r.age]++;
        all[r.place]++;
      }
      if (all[a] == 0 || all[b] == 0) return null;
      Fraction sum = ZERO;
      for (int c = 0; c < classes; c++) {
        for (int age = 0; age < ages; age++) {
          sum = sum.plus(Fraction.of(n[a][c][age], all[a]).minus(Fraction.of(n[b][c][age], all[b])).size());
        }
      }
      return sum;
    }

    Fraction meanOfAges(int first, int last) {
      int sum = 0;
      int n = 0;
      for (Reading r : key()) {
        if (r.age >= first && r.age <= last) {
          sum += r.cls;
          n++;
        }
      }
      return n == 0 ? null : Fraction.of(sum, n);
    }

    Fraction length(int age) {
      if (noAge(age) || meanOfAges(age, age) == null) return null;
      Fraction greatest = null;
      for (int first = 0; first <= age; first++) {
        if (meanOfAges(first, first) == null) continue;
        Fraction least = null;
        for (int last = age; last < ages; last++) {
          Fraction mean = meanOfAges(first, last);
          if (least == null || mean.compareTo(least) < 0) least = mean;
        }
        if (greatest == null || least.compareTo(greatest) > 0) greatest = least;
      }
      return greatest;
    }

    int pooled(int age) {
      Fraction mine = length(age);
      int n = 0;
      for (int a = 0; mine != null && a < ages; a++) if (mine.equals(length(a))) n++;
      return n;
    }

    boolean sex(int cls, int m, int all) {
      if (noClass(cls) || !(0 <= m && m <= all && all <= 100)) return false;
      males[cls] = m;
      looked[cls] = all;
      return true;
    }

    Fraction males(int cls) {
      if (noClass(cls)) return null;
      int m = 0;
      int all = 0;
      for (int c : group(cls)) {
        m += males[c];
        all += looked[c];
      }
      return all == 0 ? null : Fraction.of(m, all);
    }
  }

  /** A row of numbers that is the same each time. */
  static final class Dice {
    private long state;

    Dice(long seed) { state = seed * 0x9E3779B97F4A7C15L + 12345; }

    int below(int bound) {
      state = state * 6364136223846793005L + 1442695040888963407L;
      return (int) ((state >>> 33) % bound);
    }

    int among(int... some) { return some[below(some.length)]; }

    /** Mostly 0 .. bound - 1, at times about or far beyond its ends. */
    int index(int bound) {
      if (below(25) != 0) return below(bound);
      return among(-1, -2, bound, bound + 1, Integer.MIN_VALUE, Integer.MAX_VALUE, -bound);
    }

    int part() { return below(25) != 0 ? below(2) : among(-1, 2, 3, Integer.MIN_VALUE, Integer.MAX_VALUE); }
  }

  private static int run;
  private static int calls;

  private static void due(String call, long got, long want) {
    calls++;
    if (got == want) return;
    wrong++;
    if (wrong <= 20) System.out.println("run " + run + ": " + call + " answered " + got + ", due is " + want);
  }

  private static void due(String call, boolean got, boolean want) {
    due(call, got ? 1 : 0, want ? 1 : 0);
  }

  private static long part(Fraction f, int part) {
    if (f == null || part < 0 || part > 1) return -1;
    return (part == 0 ? f.above : f.below).longValueExact();
  }

  private static void change(AgeKeys x, Model m, Dice d, int mostReads) {
    int kind = d.below(20);
    if (kind < 11) {
      int cls = d.index(Math.min(m.classes, mostReads));
      int age = d.index(m.ages);
      int place = d.below(3) == 0 ? d.index(4) : d.below(2);
      due("read(" + cls + ", " + age + ", " + place + ")", x.read(cls, age, place), m.read(cls, age, place));
    } else if (kind < 13) {
      int p = d.index(5) - 1;
      due("place(" + p + ")", x.place(p), m.place(p));
    } else if (kind < 15) {
      int cls = d.index(m.classes);
      due("fill(" + cls + ")", x.fill(cls), m.fill(cls));
    } else if (kind < 16) {
      int a = d.index(m.classes);
      int b = d.index(m.classes);
      if (d.below(3) == 0) due("joined(" + a + ", " + b + ")", x.joined(a, b), m.joined(a, b));
    } else if (kind < 17) {
      int cls = d.index(m.classes);
      long n = d.below(8) == 0 ? d.below(12000) : d.below(40) - 1;
      if (d.below(40) == 0) n = d.below(2) == 0 ? Long.MAX_VALUE : Long.MIN_VALUE;
      due("sample(" + cls + ", " + n + ")", x.sample(cls, n), m.sample(cls, n));
    } else if (kind < 18) {
      int cls = d.index(m.classes);
      int all = d.index(101);
      int males = d.below(10) == 0 ? d.index(101) : all > 0 ? d.below(Math.min(all, 200) + 1) : 0;
      due("sex(" + cls + ", " + males + ", " + all + ")", x.sex(cls, males, all), m.sex(cls, males, all));
    } else if (kind < 19) {
      errorRow(x, m, d);
    } else {
      int from = d.index(m.ages);
      int to = d.index(m.ages);
      int twentieths = d.index(21);
      if (d.below(4) == 0) error(x, m, from, to, twentieths);
    }
  }

  private static void error(AgeKeys x, Model m, int from, int to, int twentieths) {
    due("error(" + from + ", " + to + ", " + twentieths + ")", x.error(from, to, twentieths), m.error(from, to, twentieths));
  }

  /** The errors of one true age that come to twenty: spread by chance, read as one age, or those of another age. */
  private static void errorRow(AgeKeys x, Model m, Dice d) {
    int from = d.below(m.ages);
    int[] row = new int[m.ages];
    int way = d.below(5);
    if (way == 0) {
      row = m.errors[d.below(m.ages)].clone();
    } else if (way == 1) {
      row[d.below(m.ages)] = 20;
    } else {
      for (int i = 0; i < 20; i++) row[d.below(3) == 0 ? d.below(m.ages) : from]++;
    }
    for (int to = 0; to < m.ages && calls < MOST_CALLS; to++) error(x, m, from, to, row[to]);
  }

  private static void ask(AgeKeys x, Model m, Dice d) {
    int cls = d.index(m.classes);
    int age = d.index(m.ages);
    int part = d.part();
    String with = cls + ", " + age + ", " + part + ")";
    long number = d.below(12) == 0 ? d.below(40000) - 10000 : d.below(10001);
    switch (d.below(13)) {
      case 0: due("share(" + with, x.share(cls, age, part), part(m.share(cls, age), part)); break;
      case 1: due("empty(" + cls + ")", x.empty(cls), m.empty(cls)); break;
      case 2: due("marked(" + cls + ")", x.marked(cls), m.marked(cls)); break;
      case 3: due("raised(" + number + ", " + age, x.raised(number, age, part), part(m.raised(number, age), part)); break;
      case 4: due("sums(" + number + ")", x.sums(number), m.sums(number)); break;
      case 5:
        int end = d.part();
        due("without(end " + end + ", " + with, x.without(cls, age, end, part), part(m.without(cls, age, end), part));
        break;
      case 6: due("undo()", x.undo(), m.undo()); break;
      case 7: due("undone(" + with, x.undone(cls, age, part), part(m.undone(cls, age), part)); break;
      case 8:
        int a = d.index(4);
        int b = d.index(4);
        due("apart(" + a + ", " + b + ")", x.apart(a, b, part), part(m.apart(a, b), part));
        break;
      case 9: due("length(" + age + ", " + part + ")", x.length(age, part), part(m.length(age), part)); break;
      case 10: due("pooled(" + age + ")", x.pooled(age), m.pooled(age)); break;
      case 11: due("males(" + cls + ", " + part + ")", x.males(cls, part), part(m.males(cls), part)); break;
      default: due("groups()", x.groups(), m.groups.size()); break;
    }
  }

  private static void oneRun(Dice d) {
    int classes = d.below(4) == 0 ? d.index(11) : d.below(7) + 4;
    int ages = d.below(4) == 0 ? d.index(7) : d.below(4) + 3;
    AgeKeys x = new AgeKeys(classes, ages);
    Model m = new Model(classes, ages);
    // Some runs read few classes, so that the others are empty for long.
    int mostReads = d.below(2) == 0 ? 10 : 1 + d.below(5);
    calls = 0;
    while (calls < MOST_CALLS) {
      if (d.below(3) == 0) change(x, m, d, mostReads);
      else ask(x, m, d);
    }
  }

  public static void main(String[] args) {
    for (run = 1; run <= RUNS; run++) oneRun(new Dice(run));
    System.out.println(wrong == 0 ? "all answers are as due" : wrong + " answers are not as due");
    if (wrong != 0) System.exit(1);
  }
}
