/** For each promise: ordinary inputs, the edges that the document names, wrong inputs, and that these change nothing. */
public final class PromiseTests {
  private static final int NONE = AgeKeys.NONE;
  private static final int[] FAR = {Integer.MIN_VALUE, -2, 100, Integer.MAX_VALUE};
  private static int wrong = 0;

  private static void due(String call, long got, long want) {
    if (got != want) {
      wrong++;
      System.out.println(call + " answered " + got + ", due is " + want);
    }
  }

  private static void due(String call, boolean got, boolean want) {
    due(call, got ? 1L : 0L, want ? 1L : 0L);
  }

  private static void due(String call, long above, long below, long wantAbove, long wantBelow) {
    due(call + " above", above, wantAbove);
    due(call + " below", below, wantBelow);
  }

  private static void readings(AgeKeys x, int cls, int age, int place, int times) {
    for (int i = 0; i < times; i++) due("read(" + cls + ", " + age + ", " + place + ")", x.read(cls, age, place), true);
  }

  private static void share(AgeKeys x, int cls, int age, long above, long below) {
    due("share(" + cls + ", " + age + ")", x.share(cls, age, 0), x.share(cls, age, 1), above, below);
  }

  private static void raised(AgeKeys x, long number, int age, long above, long below) {
    due("raised(" + number + ", " + age + ")", x.raised(number, age, 0), x.raised(number, age, 1), above, below);
  }

  private static void without(AgeKeys x, int cls, int age, int end, long above, long below) {
    due("without(" + cls + ", " + age + ", " + end + ")",
        x.without(cls, age, end, 0), x.without(cls, age, end, 1), above, below);
  }

  private static void undone(AgeKeys x, int cls, int age, long above, long below) {
    due("undone(" + cls + ", " + age + ")", x.undone(cls, age, 0), x.undone(cls, age, 1), above, below);
  }

  private static void apart(AgeKeys x, int a, int b, long above, long below) {
    due("apart(" + a + ", " + b + ")", x.apart(a, b, 0), x.apart(a, b, 1), above, below);
  }

  private static void length(AgeKeys x, int age, long above, long below, int pooled) {
    due("length(" + age + ")", x.length(age, 0), x.length(age, 1), above, below);
    due("pooled(" + age + ")", x.pooled(age), pooled);
  }

  private static void males(AgeKeys x, int cls, long above, long below) {
    due("males(" + cls + ")", x.males(cls, 0), x.males(cls, 1), above, below);
  }

  private static void errors(AgeKeys x, int from, int... twentieths) {
    for (int to = 0; to < twentieths.length; to++) {
      due("error(" + from + ", " + to + ")", x.error(from, to, twentieths[to]), true);
    }
  }

  private static void promise1NewObject() {
    int[][] madeAndDue = {{1, 1, 1, 1}, {10, 6, 10, 6}, {11, 7, 10, 6}, {0, 0, 1, 1}, {-1, -1, 1, 1}, {9, 5, 9, 5},
        {2, 1, 2, 1}, {1, 2, 1, 2}, {Integer.MIN_VALUE, Integer.MAX_VALUE, 1, 6}, {Integer.MAX_VALUE, Integer.MIN_VALUE, 10, 1}};
    for (int[] m : madeAndDue) {
      AgeKeys x = new AgeKeys(m[0], m[1]);
      String made = "new AgeKeys(" + m[0] + ", " + m[1] + ")";
      due(made + " groups()", x.groups(), m[2]);
      due(made + " last age", x.error(m[3] - 1, m[3] - 1, 20), true);
      due(made + " behind the last age", x.error(m[3], m[3], 20), false);
      due(made + " last class", x.sample(m[2] - 1, 0), true);
      due(made + " behind the last class", x.sample(m[2], 0), false);
      due(made + " place(NONE)", x.place(NONE), 0);
      due(made + " undo()", x.undo(), 0);
    }
  }

  private static void promise2Read() {
    AgeKeys x = new AgeKeys(10, 6);
    for (int far : FAR) {
      due("read(far, 0, 0)", x.read(far, 0, 0), false);
      due("read(0, far, 0)", x.read(0, far, 0), false);
      due("read(0, 0, far)", x.read(0, 0, far), false);
    }
    due("read(-1, 0, 0)", x.read(-1, 0, 0), false);
    due("read(0, -1, 0)", x.read(0, -1, 0), false);
    due("read(0, 0, NONE)", x.read(0, 0, NONE), false);
    due("read(10, 0, 0)", x.read(10, 0, 0), false);
    due("read(0, 6, 0)", x.read(0, 6, 0), false);
    due("read(0, 0, 4)", x.read(0, 0, 4), false);
    due("refused readings", x.place(NONE), 0);

    // Twenty of a group, of all places together, whatever place is chosen.
    for (int place = 0; place < 4; place++) readings(x, 9, place, place, 5);
    x.place(1);
    due("21st of a class", x.read(9, 5, 1), false);
    due("place(1)", x.place(1), 5);
    due("all", x.place(NONE), 20);
    share(x, 9, 1, 1, 4);

    due("joined(9, 2)", x.joined(9, 2), 2);
    due("21st of a group", x.read(2, 0, 0), false);
    due("joined(3, 4)", x.joined(3, 4), 3);
    readings(x, 3, 0, 0, 10);
    readings(x, 4, 0, 0, 10);
    due("21st of a joined group", x.read(4, 0, 0), false);

    // A hundred in all.
    readings(x, 0, 0, 0, 20);
    readings(x, 1, 0, 3, 20);
    readings(x, 5, 0, 0, 19);
    readings(x, 6, 0, 0, 1);
    due("101st of all", x.read(7, 0, 0), false);
    due("101st of all in a group with nineteen", x.read(5, 0, 0), false);
    x.place(3);
    due("101st of all, of a place with few", x.read(7, 0, 3), false);
    due("all", x.place(NONE), 100);
    due("empty(0)", x.empty(0), 7);
  }

  private static void promise3Place() {
    AgeKeys x = new AgeKeys(3, 2);
    readings(x, 0, 0, 0, 1);
    readings(x, 1, 1, 1, 2);
    readings(x, 2, 0, 3, 4);
    due("place(0)", x.place(0), 1);
    due("place(1)", x.place(1), 2);
    due("place(2)", x.place(2), 0);
    due("place(3)", x.place(3), 4);
    share(x, 2, 0, 1, 1);
    share(x, 0, 0, NONE, NONE);
    // A place that there is none of is refused: the third stays chosen.
    due("place(4)", x.place(4), NONE);
    for (int far : FAR) due("place(far)", x.place(far), NONE);
    share(x, 2, 0, 1, 1);
    share(x, 0, 0, NONE, NONE);
    due("place(NONE)", x.place(NONE), 7);
    share(x, 0, 0, 1, 1);
    // A reading of another place is counted there alone.
    x.place(0);
    readings(x, 0, 1, 2, 1);
    share(x, 0, 0, 1, 1);
    due("place(2)", x.place(2), 1);
    share(x, 0, 0, 0, 1);
  }

  private static void promise4Share() {
    AgeKeys x = new AgeKeys(5, 3);
    readings(x, 1, 0, 0, 6);
    readings(x, 1, 2, 0, 9);
    share(x, 1, 0, 2, 5);
    share(x, 1, 1, 0, 1);
    share(x, 1, 2, 3, 5);
    share(x, 0, 0, NONE, NONE);
    share(x, 5, 0, NONE, NONE);
    share(x, -1, 0, NONE, NONE);
    share(x, 1, 3, NONE, NONE);
    share(x, 1, -1, NONE, NONE);
    for (int far : FAR) {
      share(x, far, 0, NONE, NONE);
      share(x, 1, far, NONE, NONE);
      due("share(1, 0, far)", x.share(1, 0, far), NONE);
    }
    due("share(1, 0, 2)", x.share(1, 0, 2), NONE);
    due("share(1, 0, -1)", x.share(1, 0, -1), NONE);
    // Joined classes have one share.
    readings(x, 3, 1, 1, 5);
    due("joined(3, 1)", x.joined(3, 1), 1);
    share(x, 1, 0, 3, 10);
    share(x, 3, 1, 1, 4);
    share(x, 2, 1, NONE, NONE);
    // Filled by one that is empty now: none, and not by the one that fills that one.
    due("fill(4)", x.fill(4), 1);
    share(x, 4, 1, 1, 4);
    x.place(2);
    share(x, 4, 1, NONE, NONE);
    readings(x, 0, 2, 2, 1);
    due("fill(1)", x.fill(1), 0);
    share(x, 1, 2, 1, 1);
    share(x, 4, 2, NONE, NONE);
    x.place(NONE);
    share(x, 4, 1, 1, 4);
  }

  private static void promise5Empty() {
    AgeKeys x = new AgeKeys(6, 2);
    for (int k = 0; k < 6; k++) due("empty(" + k + ")", x.empty(k), k);
    due("empty(6)", x.empty(6), NONE);
    due("empty(-1)", x.empty(-1), NONE);
    for (int far : FAR) due("empty(far)", x.empty(far), NONE);
    readings(x, 2, 0, 1, 1);
    due("joined(1, 4)", x.joined(4, 1), 1);
    due("empty(0)", x.empty(0), 0);
    due("empty(1)", x.empty(1), 1);
    due("empty(2)", x.empty(2), 3);
    due("empty(3)", x.empty(3), 5);
    due("empty(4)", x.empty(4), NONE);
    due("fill(4)", x.fill(4), 2);
    due("empty(1)", x.empty(1), 3);
    due("empty(2)", x.empty(2), 5);
    due("empty(3)", x.empty(3), NONE);
    // The place that is chosen counts; a filled group stays filled when what fills it is empty.
    x.place(0);
    due("empty(1)", x.empty(1), 2);
    due("empty(2)", x.empty(2), 3);
    due("empty(4)", x.empty(4), NONE);
  }

  private static void promise6Fill() {
    AgeKeys x = new AgeKeys(10, 2);
    due("fill(0) without readings", x.fill(0), NONE);
    due("empty(0)", x.empty(0), 0);
    readings(x, 7, 0, 0, 1);
    due("fill(7)", x.fill(7), NONE);
    due("fill(10)", x.fill(10), NONE);
    due("fill(-1)", x.fill(-1), NONE);
    for (int far : FAR) due("fill(far)", x.fill(far), NONE);
    due("fill(0)", x.fill(0), 7);
    readings(x, 3, 1, 0, 1);
    share(x, 0, 0, 1, 1);
    // Of two that are as near the one with the lesser least class; a filled one fills none.
    due("fill(5)", x.fill(5), 3);
    share(x, 5, 1, 1, 1);
    due("fill(6)", x.fill(6), 7);
    // An empty group that was filled can be filled anew.
    due("fill(0)", x.fill(0), 3);
    share(x, 0, 1, 1, 1);
    // A group is as near as its nearest class, and is told by its least one.
    AgeKeys y = new AgeKeys(10, 2);
    readings(y, 4, 0, 0, 1);
    readings(y, 1, 1, 0, 1);
    due("joined(1, 6)", y.joined(6, 1), 1);
    due("fill(7)", y.fill(7), 1);
    share(y, 7, 1, 1, 1);
    due("fill(5)", y.fill(5), 1);
    due("joined(5, 9)", y.joined(5, 9), 5);
    due("joined(9, 3)", y.joined(9, 3), 3);
    due("fill(9)", y.fill(9), 1);
    due("fill(3)", y.fill(3), 1);
    due("joined(1, 8)", y.joined(1, 8), 1);
    due("fill(7)", y.fill(7), 1);
    // An empty group's every class counts: 7 is next to 8, though 2 is nearer to 0.
    AgeKeys z = new AgeKeys(10, 1);
    readings(z, 8, 0, 0, 1);
    readings(z, 0, 0, 1, 1);
    due("joined(2, 7)", z.joined(2, 7), 2);
    due("fill(2)", z.fill(2), 8);
    // The place that is chosen counts, for what is empty and for what has readings.
    z.place(1);
    due("fill(7)", z.fill(7), 0);
    due("fill(8)", z.fill(8), 0);
    due("fill(0)", z.fill(0), NONE);
    z.place(2);
    due("fill(2) in a place without readings", z.fill(2), NONE);
    z.place(1);
    due("marked(2)", z.marked(2), true);
    // A group is not empty when another class of it has the readings.
    AgeKeys w = new AgeKeys(4, 1);
    readings(w, 3, 0, 0, 1);
    readings(w, 0, 0, 0, 1);
    due("joined(3, 1)", w.joined(3, 1), 1);
    readings(w, 1, 0, 0, 1);
    due("fill(3)", w.fill(3), NONE);
    due("joined(2, 1)", w.joined(2, 1), 1);
    due("fill(2)", w.fill(2), NONE);
    due("marked(2)", w.marked(2), false);
  }

  private static void promise7Marked() {
    AgeKeys x = new AgeKeys(5, 2);
    readings(x, 0, 0, 0, 1);
    due("joined(1, 3)", x.joined(1, 3), 1);
    due("marked(1)", x.marked(1), false);
    due("fill(3)", x.fill(3), 0);
    due("marked(1)", x.marked(1), true);
    due("marked(3)", x.marked(3), true);
    due("marked(0)", x.marked(0), false);
    due("marked(2)", x.marked(2), false);
    due("marked(5)", x.marked(5), false);
    due("marked(-1)", x.marked(-1), false);
    for (int far : FAR) due("marked(far)", x.marked(far), false);
    // Readings of its own hide the fill in their place and in all, but not in other places.
    readings(x, 3, 1, 1, 1);
    due("marked(1)", x.marked(1), false);
    share(x, 1, 1, 1, 1);
    x.place(1);
    due("marked(1)", x.marked(1), false);
    x.place(0);
    due("marked(1)", x.marked(1), true);
    share(x, 1, 0, 1, 1);
    readings(x, 1, 1, 2, 1);
    x.place(2);
    due("marked(3)", x.marked(3), false);
    x.place(0);
    due("empty(0)", x.empty(0), 2);
    // Filled by one that has none now it is marked still.
    x.place(3);
    due("marked(3)", x.marked(3), true);
    share(x, 3, 0, NONE, NONE);
  }

  private static void promise8Joined() {
    AgeKeys x = new AgeKeys(8, 2);
    due("joined(0, 0)", x.joined(0, 0), NONE);
    due("joined(8, 0)", x.joined(8, 0), NONE);
    due("joined(0, 8)", x.joined(0, 8), NONE);
    due("joined(-1, 0)", x.joined(-1, 0), NONE);
    due("joined(0, -1)", x.joined(0, -1), NONE);
    for (int far : FAR) {
      due("joined(far, 0)", x.joined(far, 0), NONE);
      due("joined(0, far)", x.joined(0, far), NONE);
    }
    due("groups()", x.groups(), 8);
    due("joined(5, 3)", x.joined(5, 3), 3);
    due("joined(7, 5)", x.joined(7, 5), 3);
    due("joined(3, 7)", x.joined(3, 7), NONE);
    due("joined(7, 1)", x.joined(7, 1), 1);
    due("groups()", x.groups(), 5);
    // Twenty readings of all places are the most, whatever place is chosen.
    readings(x, 7, 0, 0, 11);
    readings(x, 0, 1, 3, 10);
    readings(x, 2, 1, 2, 9);
    x.place(2);
    due("joined(0, 5) of 21", x.joined(0, 5), NONE);
    due("groups()", x.groups(), 5);
    due("joined(2, 5) of 20", x.joined(2, 5), 1);
    share(x, 7, 1, 1, 1);
    x.place(NONE);
    share(x, 2, 0, 11, 20);
    share(x, 2, 1, 9, 20);
    readings(x, 6, 0, 0, 1);
    readings(x, 4, 0, 0, 1);
    readings(x, 6, 1, 0, 1);
    due("joined(4, 6)", x.joined(6, 4), 4);
    share(x, 4, 0, 2, 3);
    due("joined(3, 4) of 23", x.joined(3, 4), NONE);
    due("groups()", x.groups(), 3);

    // What is joined is not filled, nor what was filled by one of both; other fills stay.
    AgeKeys y = new AgeKeys(9, 1);
    readings(y, 1, 0, 0, 1);
    readings(y, 5, 0, 0, 1);
    readings(y, 8, 0, 1, 1);
    due("fill(0)", y.fill(0), 1);
    due("fill(2)", y.fill(2), 1);
    due("fill(4)", y.fill(4), 5);
    due("fill(6)", y.fill(6), 5);
    due("fill(7)", y.fill(7), 8);
    due("joined(2, 3)", y.joined(2, 3), 2);
    due("marked(2)", y.marked(2), false);
    due("marked(0)", y.marked(0), true);
    due("joined(5, 1)", y.joined(5, 1), 1);
    due("marked(0)", y.marked(0), false);
    due("marked(4)", y.marked(4), false);
    due("marked(6)", y.marked(6), false);
    due("marked(7)", y.marked(7), true);
    due("empty(0)", y.empty(0), 0);
    due("empty(1)", y.empty(1), 2);
    due("empty(2)", y.empty(2), 4);
    due("empty(3)", y.empty(3), 6);
    due("empty(4)", y.empty(4), NONE);
    // A filled one joined to a greater one: the least class of both isn't filled either.
    due("fill(0)", y.fill(0), 1);
    due("joined(7, 0)", y.joined(7, 0), 0);
    due("marked(0)", y.marked(0), false);
    // A hidden fill is gone too.
    due("fill(4)", y.fill(4), 1);
    readings(y, 4, 0, 2, 1);
    due("joined(4, 6)", y.joined(4, 6), 4);
    y.place(0);
    due("marked(4)", y.marked(4), false);
  }

  private static void promise9Sample() {
    AgeKeys x = new AgeKeys(3, 1);
    readings(x, 0, 0, 0, 1);
    due("sample(3, 1)", x.sample(3, 1), false);
    due("sample(-1, 1)", x.sample(-1, 1), false);
    for (int far : FAR) due("sample(far, 1)", x.sample(far, 1), false);
    due("sample(0, -1)", x.sample(0, -1), false);
    due("sample(0, MIN)", x.sample(0, Long.MIN_VALUE), false);
    due("sample(0, MAX)", x.sample(0, Long.MAX_VALUE), false);
    due("sample(0, 10001)", x.sample(0, 10001), false);
    due("sample(0, 2^32)", x.sample(0, 1L << 32), false);
    due("nothing was measured", x.raised(1, 0, 0), NONE);
    due("sample(0, 0)", x.sample(0, 0), true);
    due("nothing was measured", x.raised(1, 0, 0), NONE);
    due("sample(0, 4000)", x.sample(0, 4000), true);
    due("sample(1, 5999)", x.sample(1, 5999), true);
    due("sample(2, 2)", x.sample(2, 2), false);
    due("sample(2, MAX)", x.sample(2, Long.MAX_VALUE), false);
    due("sample(0, 1)", x.sample(0, 1), true);
    due("sample(1, 1)", x.sample(1, 1), false);
    due("sample(2, 0)", x.sample(2, 0), true);
  }

  private static void promise10Raised() {
    AgeKeys x = new AgeKeys(4, 3);
    readings(x, 0, 0, 0, 1);
    readings(x, 0, 1, 0, 2);
    readings(x, 2, 1, 0, 3);
    readings(x, 2, 2, 1, 4);
    due("sample(0, 2)", x.sample(0, 2), true);
    due("sample(2, 3)", x.sample(2, 3), true);
    raised(x, 10, 0, 4, 3);
    raised(x, 10, 1, 110, 21);
    raised(x, 10, 2, 24, 7);
    raised(x, 0, 1, 0, 1);
    raised(x, 10000, 0, 4000, 3);
    raised(x, 10001, 0, NONE, NONE);
    raised(x, -1, 0, NONE, NONE);
    raised(x, Long.MAX_VALUE, 0, NONE, NONE);
    raised(x, Long.MIN_VALUE, 0, NONE, NONE);
    raised(x, 1L << 32, 0, NONE, NONE);
    raised(x, 10, 3, NONE, NONE);
    raised(x, 10, -1, NONE, NONE);
    for (int far : FAR) {
      raised(x, 10, far, NONE, NONE);
      due("raised(10, 0, far)", x.raised(10, 0, far), NONE);
    }
    due("raised(10, 0, 2)", x.raised(10, 0, 2), NONE);
    due("raised(10, 0, -1)", x.raised(10, 0, -1), NONE);
    // More fish of a class that was measured already.
    due("sample(0, 1)", x.sample(0, 1), true);
    raised(x, 10, 0, 5, 3);
    // A class with some measured that has no share, until it is filled.
    due("sample(3, 6)", x.sample(3, 6), true);
    raised(x, 10, 0, NONE, NONE);
    due("fill(3)", x.fill(3), 2);
    raised(x, 10, 0, 5, 6);
    raised(x, 10, 2, 30, 7);
    // The place that is chosen counts.
    x.place(1);
    raised(x, 10, 0, NONE, NONE);
    due("fill(0)", x.fill(0), 2);
    raised(x, 10, 2, 10, 1);
    x.place(NONE);
    raised(x, 10, 0, 5, 6);
    // Filled by one that is empty now.
    x.place(3);
    readings(x, 1, 0, 3, 1);
    raised(x, 10, 0, NONE, NONE);
    // A class with some measured has its group's share, be it of one reading.
    AgeKeys w = new AgeKeys(4, 2);
    readings(w, 1, 0, 0, 1);
    due("sample(3, 4)", w.sample(3, 4), true);
    raised(w, 6, 0, NONE, NONE);
    due("joined(1, 3)", w.joined(1, 3), 1);
    raised(w, 6, 0, 6, 1);
    raised(w, 6, 1, 0, 1);
    readings(w, 3, 1, 0, 2);
    raised(w, 6, 0, 2, 1);
    due("sums(6)", w.sums(6), true);

    // Sizes of groups with hardly a common divisor, and the greatest numbers: one reading of each is of age 0.
    AgeKeys y = new AgeKeys(10, 6);
    int[] sizes = {19, 17, 16, 13, 11, 9, 7, 5};
    long common = 232792560L;
    long above = 0;
    for (int cls = 0; cls < sizes.length; cls++) {
      readings(y, cls, 0, 0, 1);
      readings(y, cls, 1, 0, sizes[cls] - 1);
      int fish = cls == 0 ? 1257 : 1249;
      due("sample(" + cls + ", " + fish + ")", y.sample(cls, fish), true);
      above += fish * (common / sizes[cls]);
    }
    long divisor = gcd(above, common);
    raised(y, 10000, 0, above / divisor, common / divisor);
    due("sums(10000)", y.sums(10000), true);
  }

  private static long gcd(long a, long b) {
    return b == 0 ? a : gcd(b, a % b);
  }

  private static void promise11Sums() {
    AgeKeys x = new AgeKeys(3, 3);
    due("sums(0)", x.sums(0), false);
    readings(x, 0, 0, 0, 1);
    readings(x, 0, 1, 1, 2);
    readings(x, 1, 2, 0, 7);
    due("sums(1) without samples", x.sums(1), false);
    due("sample(0, 5)", x.sample(0, 5), true);
    due("sample(1, 6)", x.sample(1, 6), true);
    due("sums(0)", x.sums(0), true);
    due("sums(1)", x.sums(1), true);
    due("sums(10000)", x.sums(10000), true);
    due("sums(10001)", x.sums(10001), false);
    due("sums(-1)", x.sums(-1), false);
    due("sums(MAX)", x.sums(Long.MAX_VALUE), false);
    due("sums(MIN)", x.sums(Long.MIN_VALUE), false);
    x.place(1);
    due("sums(1) without a share", x.sums(1), false);
    x.place(NONE);
    due("sample(2, 1)", x.sample(2, 1), true);
    due("sums(1) without a share", x.sums(1), false);
    due("sums(0) without a share", x.sums(0), false);
    due("fill(2)", x.fill(2), 1);
    due("sums(1)", x.sums(1), true);
  }

  private static void promise12Without() {
    AgeKeys x = new AgeKeys(4, 3);
    readings(x, 1, 0, 0, 1);
    without(x, 1, 0, 0, NONE, NONE);
    readings(x, 1, 1, 1, 1);
    without(x, 1, 0, 0, 0, 1);
    without(x, 1, 0, 1, 1, 1);
    without(x, 1, 2, 0, 0, 1);
    without(x, 1, 2, 1, 0, 1);
    readings(x, 1, 1, 0, 5);
    without(x, 1, 1, 0, 5, 6);
    without(x, 1, 1, 1, 1, 1);
    without(x, 1, 0, 0, 0, 1);
    without(x, 1, 0, 1, 1, 6);
    due("end 2", x.without(1, 1, 2, 0), NONE);
    due("end -1", x.without(1, 1, -1, 0), NONE);
    due("part 2", x.without(1, 1, 0, 2), NONE);
    due("part -1", x.without(1, 1, 0, -1), NONE);
    without(x, 4, 0, 0, NONE, NONE);
    without(x, -1, 0, 0, NONE, NONE);
    without(x, 1, 3, 0, NONE, NONE);
    without(x, 1, -1, 0, NONE, NONE);
    for (int far : FAR) {
      without(x, far, 0, 0, NONE, NONE);
      without(x, 1, far, 0, NONE, NONE);
      without(x, 1, 0, far, NONE, NONE);
      due("part far", x.without(1, 1, 0, far), NONE);
    }
    // All of one age: leaving one out changes nothing.
    readings(x, 3, 2, 0, 4);
    without(x, 3, 2, 0, 1, 1);
    without(x, 3, 2, 1, 1, 1);
    // What fills a group are not its own readings.
    due("fill(2)", x.fill(2), 1);
    without(x, 2, 1, 0, NONE, NONE);
    // The place that is chosen and the whole group count.
    x.place(1);
    without(x, 1, 1, 0, NONE, NONE);
    x.place(0);
    without(x, 1, 1, 0, 4, 5);
    due("joined(1, 3)", x.joined(1, 3), 1);
    without(x, 3, 2, 0, 1, 3);
    without(x, 1, 2, 1, 4, 9);
    readings(x, 3, 0, 0, 1);
    without(x, 3, 0, 0, 1, 10);
    without(x, 3, 0, 1, 1, 5);
  }

  private static void promise13Error() {
    AgeKeys x = new AgeKeys(1, 3);
    due("error(3, 0, 1)", x.error(3, 0, 1), false);
    due("error(0, 3, 1)", x.error(0, 3, 1), false);
    due("error(-1, 0, 1)", x.error(-1, 0, 1), false);
    due("error(0, -1, 1)", x.error(0, -1, 1), false);
    for (int far : FAR) {
      due("error(far, 0, 1)", x.error(far, 0, 1), false);
      due("error(0, far, 1)", x.error(0, far, 1), false);
      due("error(0, 1, far)", x.error(0, 1, far), false);
    }
    due("error(0, 0, 21)", x.error(0, 0, 21), false);
    due("error(0, 0, -1)", x.error(0, 0, -1), false);
    due("undo() after what was refused", x.undo(), 0);
    due("error(0, 0, 0)", x.error(0, 0, 0), true);
    due("undo()", x.undo(), 2);
    due("error(0, 1, 20)", x.error(0, 1, 20), true);
    due("undo() of two ages read as one", x.undo(), 1);
    due("error(0, 1, 0)", x.error(0, 1, 0), true);
    due("error(0, 0, 20)", x.error(0, 0, 20), true);
    due("undo() as at first", x.undo(), 0);
    // From the true age to what is read, not the other way.
    readings(x, 0, 0, 0, 1);
    errors(x, 0, 10, 10, 0);
    undone(x, 0, 0, 2, 1);
    undone(x, 0, 1, -1, 1);
    undone(x, 0, 2, 0, 1);
  }

  private static void promise14Undo() {
    AgeKeys x = new AgeKeys(1, 6);
    due("undo()", x.undo(), 0);
    // Each age is read as the next one: one can go back.
    for (int from = 0; from < 6; from++) {
      due("error", x.error(from, from, 0), true);
      due("undo() on the way", x.undo(), 2);
      due("error", x.error(from, (from + 1) % 6, 20), true);
    }
    due("undo() of a circle", x.undo(), 0);
    errors(x, 5, 0, 20, 0, 0, 0, 0);
    due("undo() of a circle that isn't one", x.undo(), 1);
    // What comes to more than twenty for one and less for another comes to twenty for neither.
    AgeKeys y = new AgeKeys(1, 2);
    errors(y, 0, 20, 1);
    errors(y, 1, 0, 19);
    due("undo()", y.undo(), 2);
    errors(y, 0, 20, 0);
    due("undo()", y.undo(), 2);
    errors(y, 1, 1, 19);
    due("undo()", y.undo(), 0);
    errors(y, 0, 1, 19);
    due("undo() of the same errors", y.undo(), 1);
    errors(y, 0, 0, 20);
    due("undo()", y.undo(), 0);
    // Three ages of which one is the mean of the two others.
    AgeKeys z = new AgeKeys(1, 3);
    errors(z, 0, 12, 4, 4);
    errors(z, 1, 8, 6, 6);
    errors(z, 2, 4, 8, 8);
    due("undo()", z.undo(), 1);
    errors(z, 2, 4, 9, 7);
    due("undo()", z.undo(), 0);
    // One age alone.
    AgeKeys one = new AgeKeys(1, 1);
    due("undo()", one.undo(), 0);
    due("error(0, 0, 19)", one.error(0, 0, 19), true);
    due("undo()", one.undo(), 2);
  }

  private static void promise15Undone() {
    AgeKeys x = new AgeKeys(3, 2);
    undone(x, 0, 0, 0, 1);
    readings(x, 0, 0, 0, 3);
    readings(x, 0, 1, 1, 7);
    undone(x, 0, 0, 3, 1);
    undone(x, 0, 1, 7, 1);
    // 200 twentieths: 60 = 15 t0 + 4 t1, 140 = 5 t0 + 16 t1
    errors(x, 0, 15, 5);
    errors(x, 1, 4, 16);
    undone(x, 0, 0, 20, 11);
    undone(x, 0, 1, 90, 11);
    due("part 2", x.undone(0, 0, 2), NONE);
    due("part -1", x.undone(0, 0, -1), NONE);
    undone(x, 3, 0, NONE, NONE);
    undone(x, -1, 0, NONE, NONE);
    undone(x, 0, 2, NONE, NONE);
    undone(x, 0, -1, NONE, NONE);
    for (int far : FAR) {
      undone(x, far, 0, NONE, NONE);
      undone(x, 0, far, NONE, NONE);
      due("part far", x.undone(0, 0, far), NONE);
    }
    // The place that is chosen counts, and below 0 is told above the line.
    x.place(0);
    undone(x, 0, 0, 48, 11);
    undone(x, 0, 1, -15, 11);
    x.place(1);
    undone(x, 0, 0, -28, 11);
    undone(x, 0, 1, 105, 11);
    x.place(NONE);
    // Errors whose determinant is below 0: the line below stays above 0.
    errors(x, 0, 4, 16);
    errors(x, 1, 15, 5);
    undone(x, 0, 0, 90, 11);
    undone(x, 0, 1, 20, 11);
    // The group counts, but what fills a group does not.
    due("fill(1)", x.fill(1), 0);
    undone(x, 1, 0, 0, 1);
    due("joined(0, 2)", x.joined(0, 2), 0);
    undone(x, 2, 1, 20, 11);
    errors(x, 0, 15, 5);
    undone(x, 0, 0, NONE, NONE);
    errors(x, 0, 15, 6);
    undone(x, 0, 0, NONE, NONE);
  }

  private static void promise16Apart() {
    AgeKeys x = new AgeKeys(4, 2);
    apart(x, 0, 1, NONE, NONE);
    readings(x, 0, 0, 0, 1);
    apart(x, 0, 1, NONE, NONE);
    apart(x, 1, 0, NONE, NONE);
    apart(x, 1, 1, NONE, NONE);
    apart(x, 0, 0, 0, 1);
    readings(x, 0, 1, 1, 3);
    apart(x, 0, 1, 2, 1);
    readings(x, 0, 0, 1, 1);
    apart(x, 0, 1, 3, 2);
    apart(x, 1, 0, 3, 2);
    readings(x, 3, 1, 3, 6);
    apart(x, 3, 1, 2, 1);
    readings(x, 3, 1, 1, 2);
    apart(x, 3, 1, 4, 3);
    // Neither the place that is chosen nor what is joined or filled makes a difference.
    x.place(2);
    due("joined(0, 3)", x.joined(0, 3), 0);
    apart(x, 3, 1, 4, 3);
    x.place(NONE);
    due("fill(1)", x.fill(1), 0);
    apart(x, 3, 1, 4, 3);
    apart(x, 4, 1, NONE, NONE);
    apart(x, 1, 4, NONE, NONE);
    apart(x, NONE, 1, NONE, NONE);
    apart(x, 1, NONE, NONE, NONE);
    for (int far : FAR) {
      apart(x, far, 1, NONE, NONE);
      apart(x, 1, far, NONE, NONE);
      due("part far", x.apart(0, 1, far), NONE);
    }
    due("part 2", x.apart(0, 1, 2), NONE);
    due("part -1", x.apart(0, 1, -1), NONE);
  }

  private static void promise17And18LengthAndPooled() {
    AgeKeys x = new AgeKeys(10, 6);
    for (int age = -1; age < 7; age++) length(x, age, NONE, NONE, 0);
    for (int far : FAR) length(x, far, NONE, NONE, 0);
    readings(x, 9, 0, 0, 1);
    readings(x, 2, 0, 0, 2);
    length(x, 0, 13, 3, 1);
    due("part 2", x.length(0, 2), NONE);
    due("part -1", x.length(0, -1), NONE);
    for (int far : FAR) due("part far", x.length(0, far), NONE);
    // An age without readings between: the two others are one behind the other.
    readings(x, 3, 2, 0, 1);
    length(x, 0, 4, 1, 2);
    length(x, 1, NONE, NONE, 0);
    length(x, 2, 4, 1, 2);
    // The same number without having fallen counts as shared, too.
    readings(x, 4, 3, 1, 5);
    length(x, 0, 4, 1, 3);
    length(x, 3, 4, 1, 3);
    readings(x, 5, 4, 0, 1);
    length(x, 4, 5, 1, 1);
    length(x, 3, 4, 1, 3);
    // One low age at the end pulls all before it down, step by step.
    readings(x, 0, 5, 2, 20);
    length(x, 5, 41, 30, 5);
    length(x, 0, 41, 30, 5);
    length(x, 4, 41, 30, 5);
    length(x, 1, NONE, NONE, 0);
    // The place that is chosen counts.
    x.place(1);
    length(x, 3, 4, 1, 1);
    length(x, 0, NONE, NONE, 0);
    x.place(0);
    length(x, 4, 5, 1, 1);
    length(x, 0, 4, 1, 2);
    length(x, 3, NONE, NONE, 0);
    readings(x, 9, 0, 3, 2);
    length(x, 0, 4, 1, 2);
    // A reading keeps its class when this is joined, and filling counts for nothing here.
    due("joined(9, 1)", x.joined(9, 1), 1);
    length(x, 0, 4, 1, 2);
    due("fill(8)", x.fill(8), 1);
    length(x, 0, 4, 1, 2);

    // Rising numbers stay as they are; equal ones are shared by two.
    AgeKeys y = new AgeKeys(10, 6);
    readings(y, 0, 0, 0, 1);
    readings(y, 1, 1, 0, 1);
    readings(y, 3, 2, 0, 3);
    readings(y, 2, 3, 0, 1);
    readings(y, 4, 3, 0, 1);
    readings(y, 9, 4, 0, 2);
    readings(y, 9, 5, 0, 1);
    length(y, 0, 0, 1, 1);
    length(y, 1, 1, 1, 1);
    length(y, 2, 3, 1, 2);
    length(y, 3, 3, 1, 2);
    length(y, 4, 9, 1, 2);
    length(y, 5, 9, 1, 2);
  }

  private static void promise19And20SexAndMales() {
    AgeKeys x = new AgeKeys(4, 1);
    males(x, 0, NONE, NONE);
    due("sex(4, 0, 1)", x.sex(4, 0, 1), false);
    due("sex(-1, 0, 1)", x.sex(-1, 0, 1), false);
    for (int far : FAR) due("sex(far, 0, 1)", x.sex(far, 0, 1), false);
    due("sex(0, 6, 9)", x.sex(0, 6, 9), true);
    males(x, 0, 2, 3);
    due("sex(0, -1, 9)", x.sex(0, -1, 9), false);
    due("sex(0, 10, 9)", x.sex(0, 10, 9), false);
    due("sex(0, 9, 101)", x.sex(0, 9, 101), false);
    due("sex(0, -2, -1)", x.sex(0, -2, -1), false);
    due("sex(0, 0, -1)", x.sex(0, 0, -1), false);
    due("sex(0, MAX, MAX)", x.sex(0, Integer.MAX_VALUE, Integer.MAX_VALUE), false);
    due("sex(0, MIN, MIN)", x.sex(0, Integer.MIN_VALUE, Integer.MIN_VALUE), false);
    males(x, 0, 2, 3);
    // Told anew, not added.
    due("sex(0, 0, 5)", x.sex(0, 0, 5), true);
    males(x, 0, 0, 1);
    due("sex(0, 5, 5)", x.sex(0, 5, 5), true);
    males(x, 0, 1, 1);
    due("sex(3, 100, 100)", x.sex(3, 100, 100), true);
    due("sex(3, 1, 100)", x.sex(3, 1, 100), true);
    males(x, 3, 1, 100);
    // All that were looked at in a group together.
    due("joined(3, 0)", x.joined(3, 0), 0);
    males(x, 0, 2, 35);
    males(x, 3, 2, 35);
    males(x, 1, NONE, NONE);
    due("sex(0, 0, 0)", x.sex(0, 0, 0), true);
    males(x, 0, 1, 100);
    due("sex(3, 0, 0)", x.sex(3, 0, 0), true);
    males(x, 0, NONE, NONE);
    due("sex(3, 1, 2)", x.sex(3, 1, 2), true);
    males(x, 0, 1, 2);
    due("sex(2, 1, 1)", x.sex(2, 1, 1), true);
    males(x, 2, 1, 1);
    due("part 2", x.males(0, 2), NONE);
    due("part -1", x.males(0, -1), NONE);
    males(x, 4, NONE, NONE);
    males(x, -1, NONE, NONE);
    for (int far : FAR) {
      males(x, far, NONE, NONE);
      due("part far", x.males(0, far), NONE);
    }
    // Filling lends no males.
    readings(x, 0, 0, 0, 1);
    due("fill(1)", x.fill(1), 0);
    males(x, 1, NONE, NONE);
  }

  private static void promise21Groups() {
    AgeKeys x = new AgeKeys(5, 1);
    due("groups()", x.groups(), 5);
    x.joined(4, 2);
    due("groups()", x.groups(), 4);
    x.joined(2, 4);
    due("groups()", x.groups(), 4);
    x.joined(0, 1);
    due("groups()", x.groups(), 3);
    x.joined(4, 1);
    due("groups()", x.groups(), 2);
    readings(x, 0, 0, 0, 1);
    x.fill(3);
    due("groups()", x.groups(), 2);
    x.joined(3, 0);
    due("groups()", x.groups(), 1);
  }

  public static void main(String[] args) {
    promise1NewObject();
    promise2Read();
    promise3Place();
    promise4Share();
    promise5Empty();
    promise6Fill();
    promise7Marked();
    promise8Joined();
    promise9Sample();
    promise10Raised();
    promise11Sums();
    promise12Without();
    promise13Error();
    promise14Undo();
    promise15Undone();
    promise16Apart();
    promise17And18LengthAndPooled();
    promise19And20SexAndMales();
    promise21Groups();
    System.out.println(wrong == 0 ? "all answers are as due" : wrong + " answers are not as due");
    if (wrong != 0) System.exit(1);
  }
}
