import java.lang.annotation.Retention;
import java.lang.annotation.RetentionPolicy;
import java.lang.reflect.InvocationTargetException;
import java.lang.reflect.Method;
import java.util.ArrayList;
import java.util.Comparator;
import java.util.List;

/**
 * Each sentence of the document that names a boundary case (too small, too large, empty, full, a wrap-around, a
 * refused call) has a test of its own here, on objects of its own; what is wrong is printed with the sentence.
 */
public final class BoundaryTests {
  private static final int NONE = AgeKeys.NONE;
  private static final int TERMS = 0;
  private static final int LAST_PROMISE = 21;
  private static final int MOST_CALLS = 512;

  private static String sentence = "";
  private static int wrong = 0;

  /** The words of the document that a test holds the class to, and their promise (0: before the promises). */
  @Retention(RetentionPolicy.RUNTIME)
  private @interface Says {
    int promise();

    String words();
  }

  // ---- what the tests share ----

  private interface Call {
    long on(AgeKeys x);
  }

  private interface Asked {
    long with(int index);
  }

  private static void due(String call, long got, long want) {
    if (got == want) return;
    wrong++;
    System.out.println(sentence + ": " + call + " answered " + got + ", due is " + want);
  }

  private static void due(String call, boolean got, boolean want) {
    due(call, got ? 1L : 0L, want ? 1L : 0L);
  }

  private static void fraction(String call, long above, long below, long wantAbove, long wantBelow) {
    due(call + " above", above, wantAbove);
    due(call + " below", below, wantBelow);
  }

  private static void share(AgeKeys x, int cls, int age, long above, long below) {
    fraction("share(" + cls + ", " + age + ")", x.share(cls, age, 0), x.share(cls, age, 1), above, below);
  }

  private static void raised(AgeKeys x, long number, int age, long above, long below) {
    fraction("raised(" + number + ", " + age + ")", x.raised(number, age, 0), x.raised(number, age, 1), above, below);
  }

  private static void without(AgeKeys x, int cls, int age, int end, long above, long below) {
    fraction("without(" + cls + ", " + age + ", " + end + ")",
        x.without(cls, age, end, 0), x.without(cls, age, end, 1), above, below);
  }

  private static void undone(AgeKeys x, int cls, int age, long above, long below) {
    fraction("undone(" + cls + ", " + age + ")", x.undone(cls, age, 0), x.undone(cls, age, 1), above, below);
  }

  private static void apart(AgeKeys x, int a, int b, long above, long below) {
    fraction("apart(" + a + ", " + b + ")", x.apart(a, b, 0), x.apart(a, b, 1), above, below);
  }

  private static void length(AgeKeys x, int age, long above, long below) {
    fraction("length(" + age + ")", x.length(age, 0), x.length(age, 1), above, below);
  }

  private static void males(AgeKeys x, int cls, long above, long below) {
    fraction("males(" + cls + ")", x.males(cls, 0), x.males(cls, 1), above, below);
  }

  private static void readings(AgeKeys x, int cls, int age, int place, int times) {
    for (int i = 1; i <= times; i++) {
      due("read(" + cls + ", " + age + ", " + place + "), the " + i + "th", x.read(cls, age, place), true);
    }
  }

  private static void errors(AgeKeys x, int from, int... twentieths) {
    for (int to = 0; to < twentieths.length; to++) {
      due("error(" + from + ", " + to + ", " + twentieths[to] + ")", x.error(from, to, twentieths[to]), true);
    }
  }

  /**
   * An index below 0, one behind the last, and some that a byte, a short or a wrapped sum would take for good ones:
   * each is refused.
   */
  private static void outside(String call, int size, long refusal, Asked asked) {
    int[] indices = {-1, -2, -size, size, size + 1, 10, 64, 256, 65536, -256, 1 << 30, -(1 << 30),
        Integer.MAX_VALUE, Integer.MAX_VALUE - 1, Integer.MIN_VALUE, Integer.MIN_VALUE + 1};
    for (int index : indices) due(call + " with the index " + index, asked.with(index), refusal);
  }

  private static void otherChoices(String call, Asked asked) {
    int[] choices = {2, -1, 3, -2, 256, 257, 1 << 16, Integer.MAX_VALUE, Integer.MIN_VALUE, Integer.MIN_VALUE + 1};
    for (int choice : choices) due(call + " with the choice " + choice, asked.with(choice), NONE);
  }

  private static long asNumber(boolean answer) {
    return answer ? 1 : 0;
  }

  /** Every question about the place that is chosen that an object of 3 classes and 2 ages answers. */
  private static void askHere(AgeKeys x, List<Long> answers) {
    for (int cls = 0; cls < 3; cls++) {
      answers.add((long) x.empty(cls));
      answers.add(asNumber(x.marked(cls)));
      for (int age = 0; age < 2; age++) {
        for (int part = 0; part < 2; part++) {
          answers.add(x.share(cls, age, part));
          answers.add(x.undone(cls, age, part));
          answers.add(x.without(cls, age, 0, part));
          answers.add(x.without(cls, age, 1, part));
        }
      }
    }
    for (int age = 0; age < 2; age++) {
      answers.add((long) x.pooled(age));
      for (int part = 0; part < 2; part++) {
        answers.add(x.length(age, part));
        answers.add(x.raised(7, age, part));
      }
    }
    answers.add(asNumber(x.sums(7)));
  }

  /** What such an object answers where it stands and then in all places: some 430 calls. */
  private static List<Long> allAnswers(AgeKeys x) {
    List<Long> answers = new ArrayList<>();
    askHere(x, answers);
    for (int place = NONE; place < 4; place++) {
      answers.add((long) x.place(place));
      askHere(x, answers);
    }
    for (int a = 0; a < 4; a++) {
      for (int b = a; b < 4; b++) {
        answers.add(x.apart(a, b, 0));
        answers.add(x.apart(a, b, 1));
      }
    }
    for (int cls = 0; cls < 3; cls++) {
      answers.add(x.males(cls, 0));
      answers.add(x.males(cls, 1));
    }
    answers.add((long) x.groups());
    answers.add((long) x.undo());
    return answers;
  }

  /** Place 2 is chosen; class 0 has readings there, 1 has none anywhere and is filled, 2 has some elsewhere. */
  private static AgeKeys inUse() {
    AgeKeys x = new AgeKeys(3, 2);
    x.read(0, 0, 2);
    x.read(0, 1, 2);
    x.read(0, 1, 0);
    x.read(2, 1, 1);
    x.read(2, 0, 0);
    x.sample(0, 4);
    x.sample(1, 3);
    x.error(0, 0, 15);
    x.error(0, 1, 5);
    x.sex(0, 1, 3);
    x.sex(2, 2, 2);
    x.place(2);
    x.fill(1);
    return x;
  }

  private static void changesNothing(String call, long refusal, Call refused) {
    AgeKeys x = inUse();
    due(call, refused.on(x), refusal);
    List<Long> want = allAnswers(inUse());
    List<Long> got = allAnswers(x);
    for (int i = 0; i < want.size(); i++) due(call + ", then question " + i, got.get(i), want.get(i));
  }

  // ---- before the promises ----

  @Says(promise = TERMS, words = "An object is used for at most 512 calls after it has been made")
  static void theLastOf512CallsIsAnswered() {
    AgeKeys x = new AgeKeys(10, 6);
    int calls = 0;
    for (; calls < 100; calls++) due("call " + calls, x.read(calls % 10, calls % 6, calls % 4), true);
    for (; calls < 500; calls++) due("call " + calls, x.sample(calls % 10, 25), true);
    for (; calls < MOST_CALLS - 1; calls++) due("call " + calls, x.sample(calls % 10, 1), false);
    due("the 512th call", x.raised(10000, 0, 0), 1700);
  }

  @Says(promise = TERMS, words = "An object is used for at most 512 calls after it has been made")
  static void the512thCallStillChangesWhatItIsAskedTo() {
    AgeKeys x = new AgeKeys(2, 2);
    for (int calls = 1; calls < MOST_CALLS; calls++) {
      due("call " + calls, x.sex(1, calls % 101, 100), true);
    }
    due("the 512th call", x.joined(1, 0), 0);
  }

  @Says(promise = TERMS, words = "THE KEY is of the place that was chosen, or of all (at first)")
  static void atFirstTheKeyIsOfAllPlaces() {
    AgeKeys x = new AgeKeys(1, 2);
    for (int place = 0; place < 4; place++) readings(x, 0, place == 3 ? 1 : 0, place, 1);
    share(x, 0, 0, 3, 4);
    share(x, 0, 1, 1, 4);
  }

  @Says(promise = TERMS, words = "A READING has a class, an age and a PLACE (0 .. 3)")
  static void placesGoFromZeroToThree() {
    AgeKeys x = new AgeKeys(1, 1);
    for (int place = 0; place < 4; place++) readings(x, 0, 0, place, place + 1);
    for (int place = 0; place < 4; place++) due("place(" + place + ")", x.place(place), place + 1);
    due("place(4)", x.place(4), NONE);
    due("read(0, 0, 4)", x.read(0, 0, 4), false);
  }

  @Says(promise = TERMS, words = "at first each class is one by itself")
  static void atFirstEachClassIsAGroup() {
    AgeKeys x = new AgeKeys(10, 1);
    due("groups()", x.groups(), 10);
    for (int cls = 0; cls < 10; cls++) due("empty(" + cls + ")", x.empty(cls), cls);
    readings(x, 4, 0, 0, 1);
    share(x, 4, 0, 1, 1);
    share(x, 3, 0, NONE, NONE);
    share(x, 5, 0, NONE, NONE);
  }

  @Says(promise = TERMS, words = "what counts for a class is what its group has")
  static void aJoinedClassWithoutReadingsHasItsGroups() {
    AgeKeys x = new AgeKeys(10, 2);
    due("joined(9, 0)", x.joined(9, 0), 0);
    readings(x, 9, 1, 0, 2);
    share(x, 0, 1, 1, 1);
    share(x, 9, 1, 1, 1);
    for (int cls = 0; cls < 10; cls += 9) {
      without(x, cls, 1, 0, 1, 1);
      undone(x, cls, 1, 2, 1);
      due("fill(" + cls + ")", x.fill(cls), NONE);
    }
    due("empty(0)", x.empty(0), 1);
  }

  @Says(promise = TERMS, words = "A group without readings is EMPTY")
  static void oneReadingMakesAGroupNotEmpty() {
    AgeKeys x = new AgeKeys(1, 1);
    due("empty(0)", x.empty(0), 0);
    readings(x, 0, 0, 3, 1);
    due("empty(0)", x.empty(0), NONE);
    x.place(0);
    due("empty(0) in another place", x.empty(0), 0);
  }

  @Says(promise = TERMS, words = "then it has that one's readings, as they are at each time")
  static void aFilledGroupFollowsWhatFillsIt() {
    AgeKeys x = new AgeKeys(2, 2);
    readings(x, 0, 0, 0, 1);
    due("fill(1)", x.fill(1), 0);
    share(x, 1, 0, 1, 1);
    readings(x, 0, 1, 1, 2);
    share(x, 1, 0, 1, 3);
    x.place(1);
    share(x, 1, 0, 0, 1);
    share(x, 1, 1, 1, 1);
  }

  @Says(promise = TERMS, words = "for shares and raising alone")
  static void fillingCountsForSharesAndRaisingAlone() {
    AgeKeys x = new AgeKeys(4, 2);
    readings(x, 0, 1, 0, 3);
    due("sex(0, 1, 2)", x.sex(0, 1, 2), true);
    due("fill(1)", x.fill(1), 0);
    due("sample(1, 1)", x.sample(1, 1), true);
    share(x, 1, 1, 1, 1);
    raised(x, 5, 1, 5, 1);
    without(x, 1, 1, 0, NONE, NONE);
    undone(x, 1, 1, 0, 1);
    males(x, 1, NONE, NONE);
    due("place(NONE)", x.place(NONE), 3);
    length(x, 1, 0, 1);
    // The filled group next to it has no readings that could fill another one.
    due("fill(2)", x.fill(2), 0);
  }

  @Says(promise = TERMS, words = "none of its own any more makes no difference")
  static void aFillOutlastsReadingsThatAreNotSeenAnyMore() {
    AgeKeys x = new AgeKeys(2, 2);
    readings(x, 0, 0, 0, 1);
    x.place(0);
    due("fill(1)", x.fill(1), 0);
    readings(x, 1, 1, 1, 1);
    due("place(NONE)", x.place(NONE), 2);
    share(x, 1, 1, 1, 1);
    due("place(0)", x.place(0), 1);
    share(x, 1, 0, 1, 1);
    due("marked(1)", x.marked(1), true);
  }

  @Says(promise = TERMS, words = "in place of its own [..] as long as it has none")
  static void oneReadingOfItsOwnEndsWhatFillsIt() {
    AgeKeys x = new AgeKeys(2, 2);
    readings(x, 0, 0, 0, 5);
    due("fill(1)", x.fill(1), 0);
    share(x, 1, 0, 1, 1);
    readings(x, 1, 1, 0, 1);
    share(x, 1, 0, 0, 1);
    share(x, 1, 1, 1, 1);
  }

  @Says(promise = TERMS, words = "Fractions are told in lowest terms")
  static void fractionsAreInLowestTerms() {
    AgeKeys x = new AgeKeys(10, 2);
    readings(x, 9, 0, 0, 8);
    readings(x, 9, 1, 0, 12);
    share(x, 9, 0, 2, 5);
    due("sample(9, 10)", x.sample(9, 10), true);
    raised(x, 10, 0, 4, 1);
    raised(x, 6, 0, 12, 5);
    without(x, 9, 0, 0, 7, 19);
    errors(x, 0, 16, 4);
    undone(x, 9, 0, 10, 1);
    readings(x, 8, 0, 1, 1);
    readings(x, 7, 0, 1, 1);
    apart(x, 0, 1, 2, 1);
    x.place(1);
    length(x, 0, 15, 2);
    due("sex(9, 60, 100)", x.sex(9, 60, 100), true);
    males(x, 9, 3, 5);
  }

  @Says(promise = TERMS, words = "part 1: below, above 0")
  static void theNumberBelowIsAboveZero() {
    AgeKeys x = new AgeKeys(1, 2);
    readings(x, 0, 0, 0, 3);
    // The errors' determinant is above 0, then below 0; both times one number is below 0.
    errors(x, 0, 15, 5);
    errors(x, 1, 4, 16);
    undone(x, 0, 0, 48, 11);
    undone(x, 0, 1, -15, 11);
    errors(x, 0, 4, 16);
    errors(x, 1, 15, 5);
    undone(x, 0, 0, -15, 11);
    undone(x, 0, 1, 48, 11);
  }

  @Says(promise = TERMS, words = "0 as 0 over 1")
  static void zeroIsZeroOverOne() {
    AgeKeys x = new AgeKeys(2, 2);
    readings(x, 0, 0, 0, 7);
    share(x, 0, 1, 0, 1);
    without(x, 0, 1, 1, 0, 1);
    apart(x, 0, 0, 0, 1);
    length(x, 0, 0, 1);
    due("sample(0, 9)", x.sample(0, 9), true);
    raised(x, 5, 1, 0, 1);
    raised(x, 0, 0, 0, 1);
    due("sex(0, 0, 100)", x.sex(0, 0, 100), true);
    males(x, 0, 0, 1);
    // The determinant is below 0, and so is a zero that isn't told well.
    errors(x, 0, 0, 20);
    errors(x, 1, 20, 0);
    undone(x, 0, 0, 0, 1);
    undone(x, 1, 1, 0, 1);
  }

  @Says(promise = TERMS, words = "Checks are made in this order: index, calls out of turn, ranges.")
  static void whatIsWrongInManyWaysIsRefusedOnce() {
    AgeKeys x = new AgeKeys(2, 2);
    due("read(2, 2, 4)", x.read(2, 2, 4), false);
    due("share(2, 2, 2)", x.share(2, 2, 2), NONE);
    due("fill(2)", x.fill(2), NONE);
    due("joined(2, 2)", x.joined(2, 2), NONE);
    due("sample(2, 10001)", x.sample(2, 10001), false);
    due("raised(10001, 2, 2)", x.raised(10001, 2, 2), NONE);
    due("without(2, 2, 2, 2)", x.without(2, 2, 2, 2), NONE);
    due("error(2, 2, 21)", x.error(2, 2, 21), false);
    due("error(0, 0, 0)", x.error(0, 0, 0), true);
    due("undone(2, 2, 2)", x.undone(2, 2, 2), NONE);
    due("apart(4, 4, 2)", x.apart(4, 4, 2), NONE);
    due("length(2, 2)", x.length(2, 2), NONE);
    due("sex(2, 3, 2)", x.sex(2, 3, 2), false);
    due("males(2, 2)", x.males(2, 2), NONE);
  }

  @Says(promise = TERMS, words = "What is refused changes nothing.")
  static void refusedReadingsChangeNothing() {
    changesNothing("read(3, 0, 0)", 0, x -> asNumber(x.read(3, 0, 0)));
    changesNothing("read(-1, 0, 0)", 0, x -> asNumber(x.read(-1, 0, 0)));
    changesNothing("read(0, 2, 0)", 0, x -> asNumber(x.read(0, 2, 0)));
    changesNothing("read(1, -1, 0)", 0, x -> asNumber(x.read(1, -1, 0)));
    changesNothing("read(0, 0, 4)", 0, x -> asNumber(x.read(0, 0, 4)));
    changesNothing("read(2, 1, -1)", 0, x -> asNumber(x.read(2, 1, -1)));
  }

  @Says(promise = TERMS, words = "What is refused changes nothing.")
  static void readingsBeyondTheLimitsChangeNothing() {
    AgeKeys x = new AgeKeys(10, 2);
    for (int cls = 0; cls < 4; cls++) readings(x, cls, 0, 0, 20);
    due("the 21st of a group", x.read(3, 1, 1), false);
    share(x, 3, 1, 0, 1);
    due("place(1)", x.place(1), 0);
    readings(x, 5, 0, 1, 19);
    readings(x, 6, 0, 1, 1);
    due("the 101st", x.read(7, 1, 2), false);
    due("place(2)", x.place(2), 0);
    due("place(NONE)", x.place(NONE), 100);
    share(x, 7, 1, NONE, NONE);
    due("joined(5, 6) of twenty", x.joined(5, 6), 5);
  }

  @Says(promise = TERMS, words = "What is refused changes nothing.")
  static void refusedPlacesChangeNothing() {
    for (int p : new int[] {4, 5, -2, Integer.MAX_VALUE, Integer.MIN_VALUE}) {
      changesNothing("place(" + p + ")", NONE, x -> x.place(p));
    }
  }

  @Says(promise = TERMS, words = "What is refused changes nothing.")
  static void refusedFillsChangeNothing() {
    changesNothing("fill(3)", NONE, x -> x.fill(3));
    changesNothing("fill(-1)", NONE, x -> x.fill(-1));
    changesNothing("fill(0), which has readings", NONE, x -> x.fill(0));
    // None has readings in place 3: what filled class 1 before fills it still.
    AgeKeys x = inUse();
    x.place(3);
    due("fill(1) where none has readings", x.fill(1), NONE);
    due("fill(2) where none has readings", x.fill(2), NONE);
    x.place(2);
    due("marked(1)", x.marked(1), true);
    share(x, 1, 0, 1, 2);
    due("marked(2)", x.marked(2), false);
  }

  @Says(promise = TERMS, words = "What is refused changes nothing.")
  static void refusedJoinsChangeNothing() {
    changesNothing("joined(0, 3)", NONE, x -> x.joined(0, 3));
    changesNothing("joined(-1, 1)", NONE, x -> x.joined(-1, 1));
    changesNothing("joined(1, 1), one already", NONE, x -> x.joined(1, 1));
    // Too many readings together: the groups, their shares and what they fill stay.
    AgeKeys x = new AgeKeys(4, 2);
    readings(x, 0, 0, 0, 11);
    readings(x, 3, 1, 1, 10);
    due("fill(1)", x.fill(1), 0);
    due("fill(2)", x.fill(2), 3);
    due("joined(0, 3) of 21", x.joined(0, 3), NONE);
    due("groups()", x.groups(), 4);
    share(x, 0, 0, 1, 1);
    share(x, 3, 0, 0, 1);
    due("marked(1)", x.marked(1), true);
    due("marked(2)", x.marked(2), true);
  }

  @Says(promise = TERMS, words = "What is refused changes nothing.")
  static void refusedSamplesChangeNothing() {
    changesNothing("sample(3, 1)", 0, x -> asNumber(x.sample(3, 1)));
    changesNothing("sample(-1, 1)", 0, x -> asNumber(x.sample(-1, 1)));
    changesNothing("sample(0, -1)", 0, x -> asNumber(x.sample(0, -1)));
    changesNothing("sample(1, MIN)", 0, x -> asNumber(x.sample(1, Long.MIN_VALUE)));
    changesNothing("sample(1, 9994)", 0, x -> asNumber(x.sample(1, 9994)));
    changesNothing("sample(0, MAX)", 0, x -> asNumber(x.sample(0, Long.MAX_VALUE)));
  }

  @Says(promise = TERMS, words = "What is refused changes nothing.")
  static void refusedErrorsChangeNothing() {
    changesNothing("error(2, 0, 3)", 0, x -> asNumber(x.error(2, 0, 3)));
    changesNothing("error(0, 2, 3)", 0, x -> asNumber(x.error(0, 2, 3)));
    changesNothing("error(-1, 1, 3)", 0, x -> asNumber(x.error(-1, 1, 3)));
    changesNothing("error(1, -1, 3)", 0, x -> asNumber(x.error(1, -1, 3)));
    changesNothing("error(0, 0, 21)", 0, x -> asNumber(x.error(0, 0, 21)));
    changesNothing("error(1, 0, -1)", 0, x -> asNumber(x.error(1, 0, -1)));
  }

  @Says(promise = TERMS, words = "What is refused changes nothing.")
  static void refusedSexesChangeNothing() {
    changesNothing("sex(3, 0, 1)", 0, x -> asNumber(x.sex(3, 0, 1)));
    changesNothing("sex(-1, 0, 1)", 0, x -> asNumber(x.sex(-1, 0, 1)));
    changesNothing("sex(0, -1, 1)", 0, x -> asNumber(x.sex(0, -1, 1)));
    changesNothing("sex(0, 3, 2)", 0, x -> asNumber(x.sex(0, 3, 2)));
    changesNothing("sex(2, 1, 101)", 0, x -> asNumber(x.sex(2, 1, 101)));
  }

  // ---- promise 1: a new object ----

  private static void madeWith(int classes, int ages, int dueClasses, int dueAges) {
    AgeKeys x = new AgeKeys(classes, ages);
    String made = "new AgeKeys(" + classes + ", " + ages + ") ";
    due(made + "groups()", x.groups(), dueClasses);
    due(made + "the last class", x.read(dueClasses - 1, 0, 0), true);
    due(made + "behind the last class", x.read(dueClasses, 0, 0), false);
    due(made + "the last age", x.read(0, dueAges - 1, 0), true);
    due(made + "behind the last age", x.read(0, dueAges, 0), false);
  }

  @Says(promise = 1, words = "Classes below 1 are 1")
  static void classesBelowOneAreOne() {
    for (int classes : new int[] {1, 0, -1, -10, Integer.MIN_VALUE}) madeWith(classes, 3, 1, 3);
    madeWith(2, 3, 2, 3);
  }

  @Says(promise = 1, words = "above 10 they are 10")
  static void classesAboveTenAreTen() {
    for (int classes : new int[] {10, 11, 12, 266, Integer.MAX_VALUE}) madeWith(classes, 3, 10, 3);
    madeWith(9, 3, 9, 3);
  }

  @Says(promise = 1, words = "ages below 1 are 1")
  static void agesBelowOneAreOne() {
    for (int ages : new int[] {1, 0, -1, -6, Integer.MIN_VALUE}) madeWith(4, ages, 4, 1);
    madeWith(4, 2, 4, 2);
  }

  @Says(promise = 1, words = "above 6 they are 6")
  static void agesAboveSixAreSix() {
    for (int ages : new int[] {6, 7, 8, 262, Integer.MAX_VALUE}) madeWith(4, ages, 4, 6);
    madeWith(4, 5, 4, 5);
  }

  // ---- promise 2: read ----

  @Says(promise = 2, words = "False when there is no such class")
  static void readRefusesOtherClasses() {
    AgeKeys x = new AgeKeys(3, 2);
    outside("read", 3, 0, cls -> asNumber(x.read(cls, 0, 0)));
    due("place(NONE)", x.place(NONE), 0);
    readings(x, 0, 0, 0, 1);
    readings(x, 2, 0, 0, 1);
  }

  @Says(promise = 2, words = "False when there is no such [..] age")
  static void readRefusesOtherAges() {
    AgeKeys x = new AgeKeys(3, 2);
    outside("read", 2, 0, age -> asNumber(x.read(1, age, 0)));
    due("place(NONE)", x.place(NONE), 0);
    readings(x, 1, 0, 0, 1);
    readings(x, 1, 1, 0, 1);
  }

  @Says(promise = 2, words = "False when there is no such [..] place")
  static void readRefusesOtherPlaces() {
    AgeKeys x = new AgeKeys(3, 2);
    outside("read", 4, 0, place -> asNumber(x.read(1, 1, place)));
    due("place(NONE)", x.place(NONE), 0);
    readings(x, 1, 1, 0, 1);
    readings(x, 1, 1, 3, 1);
  }

  @Says(promise = 2, words = "or there would be more than 20 of its group")
  static void aGroupHasTwentyReadingsAtMost() {
    AgeKeys x = new AgeKeys(3, 2);
    readings(x, 1, 0, 0, 20);
    due("the 21st of the age", x.read(1, 0, 0), false);
    due("the 21st of another age", x.read(1, 1, 0), false);
    readings(x, 0, 0, 0, 20);
    due("place(NONE)", x.place(NONE), 40);
    due("joined(1, 2)", x.joined(1, 2), 1);
    due("the 21st of a group, of its other class", x.read(2, 0, 0), false);
    // Ten and ten in two classes of one group, that make eleven at most by themselves.
    AgeKeys y = new AgeKeys(3, 1);
    due("joined(0, 2)", y.joined(0, 2), 0);
    readings(y, 0, 0, 0, 10);
    readings(y, 2, 0, 0, 10);
    due("the 21st of the greater class", y.read(2, 0, 0), false);
    due("the 21st of the lesser class", y.read(0, 0, 0), false);
    readings(y, 1, 0, 0, 1);
  }

  @Says(promise = 2, words = "(of all places)")
  static void theTwentyOfAGroupAreOfAllPlaces() {
    AgeKeys x = new AgeKeys(2, 1);
    for (int place = 0; place < 4; place++) readings(x, 0, 0, place, 5);
    for (int place = 0; place < 4; place++) {
      x.place(place);
      due("the 21st, of place " + place, x.read(0, 0, place), false);
    }
    due("place(NONE)", x.place(NONE), 20);
  }

  @Says(promise = 2, words = "or 100 in all")
  static void thereAreAHundredReadingsAtMost() {
    AgeKeys x = new AgeKeys(10, 2);
    for (int cls = 0; cls < 10; cls++) readings(x, cls, 0, cls % 4, 10);
    for (int cls = 0; cls < 10; cls++) due("the 101st, of class " + cls, x.read(cls, 1, 0), false);
    x.place(3);
    due("the 101st, of a place with twenty", x.read(9, 1, 3), false);
    due("place(NONE)", x.place(NONE), 100);
  }

  // ---- promise 3: place ----

  @Says(promise = 3, words = "Chooses a place, or all (p = NONE)")
  static void placeNoneIsAllOfThem() {
    AgeKeys x = new AgeKeys(1, 2);
    readings(x, 0, 0, 0, 2);
    readings(x, 0, 1, 3, 4);
    due("place(3)", x.place(3), 4);
    share(x, 0, 1, 1, 1);
    due("place(NONE)", x.place(NONE), 6);
    share(x, 0, 1, 2, 3);
  }

  @Says(promise = 3, words = "how many readings that is")
  static void aPlaceWithoutReadingsHasNone() {
    AgeKeys x = new AgeKeys(2, 1);
    for (int p = NONE; p < 4; p++) due("place(" + p + ") of a new object", x.place(p), 0);
    readings(x, 0, 0, 1, 20);
    readings(x, 1, 0, 1, 20);
    due("place(0)", x.place(0), 0);
    due("place(1)", x.place(1), 40);
    due("place(2)", x.place(2), 0);
  }

  @Says(promise = 3, words = "NONE for others")
  static void placeRefusesOthers() {
    AgeKeys x = new AgeKeys(1, 1);
    readings(x, 0, 0, 2, 3);
    x.place(2);
    for (int p : new int[] {4, 5, -2, -3, 256, 1 << 16, Integer.MAX_VALUE, Integer.MIN_VALUE}) {
      due("place(" + p + ")", x.place(p), NONE);
      share(x, 0, 0, 1, 1);
    }
    x.place(1);
    due("place(4)", x.place(4), NONE);
    share(x, 0, 0, NONE, NONE);
  }

  // ---- promise 4: share ----

  private static AgeKeys oneReadingEach() {
    AgeKeys x = new AgeKeys(3, 2);
    for (int cls = 0; cls < 3; cls++) readings(x, cls, 1, 0, 1);
    return x;
  }

  @Says(promise = 4, words = "NONE when there is no such class")
  static void shareRefusesOtherClasses() {
    AgeKeys x = oneReadingEach();
    outside("share", 3, NONE, cls -> x.share(cls, 1, 0));
    outside("share", 3, NONE, cls -> x.share(cls, 1, 1));
    share(x, 0, 1, 1, 1);
    share(x, 2, 1, 1, 1);
  }

  @Says(promise = 4, words = "NONE when there is no such [..] age")
  static void shareRefusesOtherAges() {
    AgeKeys x = oneReadingEach();
    outside("share", 2, NONE, age -> x.share(1, age, 0));
    outside("share", 2, NONE, age -> x.share(1, age, 1));
    share(x, 1, 0, 0, 1);
    share(x, 1, 1, 1, 1);
  }

  @Says(promise = 4, words = "or its group is EMPTY and not filled")
  static void anEmptyGroupHasNoShare() {
    AgeKeys x = new AgeKeys(3, 1);
    share(x, 1, 0, NONE, NONE);
    readings(x, 0, 0, 2, 1);
    share(x, 1, 0, NONE, NONE);
    due("joined(1, 2)", x.joined(1, 2), 1);
    share(x, 2, 0, NONE, NONE);
    due("fill(1)", x.fill(1), 0);
    share(x, 2, 0, 1, 1);
    x.place(1);
    share(x, 0, 0, NONE, NONE);
  }

  @Says(promise = 4, words = "(or by one that is empty now)")
  static void aGroupFilledByAnEmptyOneHasNoShare() {
    AgeKeys x = new AgeKeys(3, 1);
    readings(x, 0, 0, 0, 1);
    readings(x, 2, 0, 1, 1);
    due("fill(1)", x.fill(1), 0);
    x.place(1);
    share(x, 1, 0, NONE, NONE);
    // Not even when what fills it is filled itself.
    due("fill(0)", x.fill(0), 2);
    share(x, 0, 0, 1, 1);
    share(x, 1, 0, NONE, NONE);
    x.place(0);
    share(x, 1, 0, 1, 1);
  }

  @Says(promise = 4, words = "or for other parts")
  static void shareRefusesOtherParts() {
    AgeKeys x = oneReadingEach();
    otherChoices("share", part -> x.share(1, 1, part));
    share(x, 1, 1, 1, 1);
  }

  // ---- promise 5: empty ----

  @Says(promise = 5, words = "The least class of the k-th group, by its least class")
  static void emptyGroupsAreToldByTheirLeastClass() {
    AgeKeys x = new AgeKeys(5, 1);
    due("joined(1, 4)", x.joined(1, 4), 1);
    due("joined(3, 0)", x.joined(3, 0), 0);
    due("empty(0)", x.empty(0), 0);
    due("empty(1)", x.empty(1), 1);
    due("empty(2)", x.empty(2), 2);
    due("empty(3)", x.empty(3), NONE);
  }

  @Says(promise = 5, words = "that is EMPTY and not filled")
  static void filledGroupsAreLeftOut() {
    AgeKeys x = new AgeKeys(4, 1);
    readings(x, 1, 0, 0, 1);
    due("fill(0)", x.fill(0), 1);
    due("empty(0)", x.empty(0), 2);
    due("empty(1)", x.empty(1), 3);
    due("empty(2)", x.empty(2), NONE);
    // Filled by one that is empty now it is filled still.
    x.place(1);
    due("empty(0) elsewhere", x.empty(0), 1);
    due("empty(2) elsewhere", x.empty(2), 3);
    due("empty(3) elsewhere", x.empty(3), NONE);
  }

  @Says(promise = 5, words = "NONE when there is none")
  static void thereIsNoEmptyGroupBehindTheLast() {
    AgeKeys x = new AgeKeys(10, 1);
    due("empty(9)", x.empty(9), 9);
    outside("empty", 10, NONE, k -> x.empty(k));
    for (int cls = 0; cls < 10; cls++) readings(x, cls, 0, 0, 1);
    for (int k = -1; k < 11; k++) due("empty(" + k + ") of full groups", x.empty(k), NONE);
    x.place(1);
    due("empty(9) elsewhere", x.empty(9), 9);
  }

  // ---- promise 6: fill ----

  @Says(promise = 6, words = "Fills an EMPTY group (the place that is chosen counts)")
  static void fillGoesByThePlaceThatIsChosen() {
    AgeKeys x = new AgeKeys(3, 2);
    readings(x, 1, 0, 0, 1);
    readings(x, 2, 1, 1, 1);
    due("fill(1), not empty", x.fill(1), NONE);
    due("fill(0) by what all places have", x.fill(0), 1);
    x.place(1);
    due("fill(1), empty here", x.fill(1), 2);
    due("fill(0) by what this place has", x.fill(0), 2);
    x.place(0);
    due("fill(2), empty here", x.fill(2), 1);
  }

  @Says(promise = 6, words = "the nearest one that has readings")
  static void aFilledGroupHasNoReadingsToFillWith() {
    AgeKeys x = new AgeKeys(10, 1);
    readings(x, 9, 0, 0, 1);
    for (int cls = 8; cls >= 0; cls--) due("fill(" + cls + ")", x.fill(cls), 9);
    for (int cls = 0; cls < 9; cls++) due("fill(" + cls + ") again", x.fill(cls), 9);
  }

  @Says(promise = 6, words = "the least distance from a class of the one to a class of the other")
  static void anyClassOfBothGroupsCounts() {
    AgeKeys x = new AgeKeys(10, 1);
    readings(x, 3, 0, 0, 1);
    readings(x, 9, 0, 0, 1);
    due("joined(0, 7)", x.joined(0, 7), 0);
    due("fill(0): 7 is two from 9, 0 three from 3", x.fill(0), 9);
    due("joined(3, 8)", x.joined(3, 8), 3);
    due("fill(0): 7 is one from 8", x.fill(0), 3);
    due("fill(7)", x.fill(7), 3);
  }

  @Says(promise = 6, words = "of the same the one with the lesser least class")
  static void theLesserLeastClassFillsAtTheSameDistance() {
    AgeKeys x = new AgeKeys(10, 1);
    readings(x, 4, 0, 0, 1);
    readings(x, 6, 0, 0, 1);
    due("fill(5)", x.fill(5), 4);
    // By its least class the group of 6 comes first now, though 4 is less than 6.
    due("joined(6, 0)", x.joined(6, 0), 0);
    due("fill(5)", x.fill(5), 0);
    due("joined(4, 1)", x.joined(4, 1), 1);
    due("fill(5)", x.fill(5), 0);
  }

  @Says(promise = 6, words = "that class of it")
  static void fillTellsTheLeastClassOfWhatFills() {
    AgeKeys x = new AgeKeys(10, 1);
    due("joined(2, 8)", x.joined(2, 8), 2);
    due("joined(8, 5)", x.joined(8, 5), 2);
    readings(x, 8, 0, 0, 1);
    due("fill(9)", x.fill(9), 2);
    due("fill(4)", x.fill(4), 2);
    due("fill(0)", x.fill(0), 2);
  }

  @Says(promise = 6, words = "NONE when there is no such class")
  static void fillRefusesOtherClasses() {
    AgeKeys x = new AgeKeys(3, 1);
    readings(x, 1, 0, 0, 1);
    outside("fill", 3, NONE, cls -> x.fill(cls));
    due("fill(0)", x.fill(0), 1);
    due("fill(2)", x.fill(2), 1);
  }

  @Says(promise = 6, words = "or its group is not empty")
  static void fillRefusesAGroupThatIsNotEmpty() {
    AgeKeys x = new AgeKeys(4, 1);
    readings(x, 0, 0, 0, 1);
    readings(x, 3, 0, 0, 1);
    due("fill(3)", x.fill(3), NONE);
    due("marked(3)", x.marked(3), false);
    due("joined(1, 3)", x.joined(1, 3), 1);
    due("fill(1), whose group has a reading", x.fill(1), NONE);
    due("marked(1)", x.marked(1), false);
    x.place(1);
    due("marked(1) where it is empty", x.marked(1), false);
  }

  @Says(promise = 6, words = "or none has readings")
  static void fillRefusesWhenNoneHasReadings() {
    AgeKeys x = new AgeKeys(3, 1);
    for (int cls = 0; cls < 3; cls++) due("fill(" + cls + ")", x.fill(cls), NONE);
    readings(x, 0, 0, 0, 1);
    x.place(3);
    for (int cls = 0; cls < 3; cls++) {
      due("fill(" + cls + ") where none has readings", x.fill(cls), NONE);
      due("marked(" + cls + ")", x.marked(cls), false);
    }
    AgeKeys one = new AgeKeys(1, 1);
    due("fill(0) of the only group", one.fill(0), NONE);
  }

  // ---- promise 7: marked ----

  @Says(promise = 7, words = "Whether a class's group was filled")
  static void onlyFilledGroupsAreMarked() {
    AgeKeys x = new AgeKeys(4, 1);
    for (int cls = 0; cls < 4; cls++) due("marked(" + cls + ") at first", x.marked(cls), false);
    readings(x, 0, 0, 0, 1);
    due("joined(1, 3)", x.joined(1, 3), 1);
    due("fill(3)", x.fill(3), 0);
    due("marked(0), which fills", x.marked(0), false);
    due("marked(1)", x.marked(1), true);
    due("marked(2), empty", x.marked(2), false);
    due("marked(3)", x.marked(3), true);
  }

  @Says(promise = 7, words = "(and has no readings of its own now)")
  static void readingsOfItsOwnUnmarkAGroup() {
    AgeKeys x = new AgeKeys(3, 1);
    readings(x, 0, 0, 0, 1);
    due("joined(1, 2)", x.joined(1, 2), 1);
    due("fill(1)", x.fill(1), 0);
    readings(x, 2, 0, 1, 1);
    due("marked(1)", x.marked(1), false);
    due("marked(2)", x.marked(2), false);
    x.place(1);
    due("marked(1) where the reading is", x.marked(1), false);
    x.place(0);
    due("marked(1) where it has none", x.marked(1), true);
    x.place(2);
    due("marked(1) where none has any", x.marked(1), true);
  }

  @Says(promise = 7, words = "false when there is none such")
  static void markedRefusesOtherClasses() {
    AgeKeys x = new AgeKeys(3, 1);
    readings(x, 1, 0, 0, 1);
    due("fill(0)", x.fill(0), 1);
    due("fill(2)", x.fill(2), 1);
    outside("marked", 3, 0, cls -> asNumber(x.marked(cls)));
    due("marked(0)", x.marked(0), true);
    due("marked(2)", x.marked(2), true);
  }

  // ---- promise 8: joined ----

  @Says(promise = 8, words = "The groups of two classes become one: its least class.")
  static void joinedTellsTheLeastClass() {
    AgeKeys x = new AgeKeys(10, 1);
    due("joined(9, 8)", x.joined(9, 8), 8);
    due("joined(3, 9)", x.joined(3, 9), 3);
    due("joined(0, 1)", x.joined(0, 1), 0);
    due("joined(8, 1)", x.joined(8, 1), 0);
    readings(x, 3, 0, 0, 1);
    for (int cls : new int[] {0, 1, 3, 8, 9}) share(x, cls, 0, 1, 1);
    for (int cls : new int[] {2, 4, 5, 6, 7}) share(x, cls, 0, NONE, NONE);
  }

  @Says(promise = 8, words = "It is not filled then")
  static void whatWasFilledAndIsJoinedIsNotFilled() {
    for (int other = 0; other < 4; other += 3) {
      AgeKeys x = new AgeKeys(5, 1);
      readings(x, 4, 0, 0, 1);
      due("fill(1)", x.fill(1), 4);
      due("joined(1, " + other + ")", x.joined(1, other), Math.min(1, other));
      due("marked(1)", x.marked(1), false);
      due("marked(" + other + ")", x.marked(other), false);
      share(x, 1, 0, NONE, NONE);
      due("empty(1)", x.empty(1), other == 0 ? 2 : 1);
      due("fill(1) anew", x.fill(1), 4);
    }
    // Two that are filled both.
    AgeKeys y = new AgeKeys(3, 1);
    readings(y, 1, 0, 0, 1);
    due("fill(0)", y.fill(0), 1);
    due("fill(2)", y.fill(2), 1);
    due("joined(2, 0)", y.joined(2, 0), 0);
    due("marked(0)", y.marked(0), false);
    due("marked(2)", y.marked(2), false);
  }

  @Says(promise = 8, words = "nor are those that were filled by one of both")
  static void whatWasFilledByOneOfBothIsNotFilled() {
    AgeKeys x = new AgeKeys(10, 1);
    readings(x, 1, 0, 0, 1);
    readings(x, 5, 0, 0, 1);
    readings(x, 9, 0, 0, 1);
    due("fill(2)", x.fill(2), 1);
    due("fill(6)", x.fill(6), 5);
    due("fill(8)", x.fill(8), 9);
    due("joined(5, 1)", x.joined(5, 1), 1);
    due("marked(2)", x.marked(2), false);
    due("marked(6)", x.marked(6), false);
    due("marked(8), filled by a third", x.marked(8), true);
    share(x, 2, 0, NONE, NONE);
    share(x, 6, 0, NONE, NONE);
    share(x, 8, 0, 1, 1);
  }

  @Says(promise = 8, words = "NONE when there are none such")
  static void joinedRefusesOtherClasses() {
    AgeKeys x = new AgeKeys(3, 1);
    outside("joined", 3, NONE, cls -> x.joined(cls, 1));
    outside("joined", 3, NONE, cls -> x.joined(1, cls));
    outside("joined", 3, NONE, cls -> x.joined(cls, cls));
    due("groups()", x.groups(), 3);
    due("joined(2, 0)", x.joined(2, 0), 0);
  }

  @Says(promise = 8, words = "or they are one already")
  static void joinedRefusesWhatIsOneAlready() {
    AgeKeys x = new AgeKeys(4, 1);
    due("joined(2, 2)", x.joined(2, 2), NONE);
    due("joined(3, 1)", x.joined(3, 1), 1);
    due("joined(1, 3)", x.joined(1, 3), NONE);
    due("joined(3, 1)", x.joined(3, 1), NONE);
    due("joined(2, 3)", x.joined(2, 3), 1);
    due("joined(2, 1)", x.joined(2, 1), NONE);
    // What is refused here leaves what fills and is filled alone.
    readings(x, 2, 0, 0, 1);
    due("fill(0)", x.fill(0), 1);
    due("joined(1, 2)", x.joined(1, 2), NONE);
    due("joined(0, 0)", x.joined(0, 0), NONE);
    due("marked(0)", x.marked(0), true);
  }

  @Says(promise = 8, words = "or would have more than 20 readings")
  static void joinedGroupsHaveTwentyReadingsAtMost() {
    AgeKeys x = new AgeKeys(4, 1);
    readings(x, 0, 0, 0, 10);
    readings(x, 1, 0, 0, 10);
    readings(x, 2, 0, 0, 20);
    due("joined(0, 1) of 20", x.joined(0, 1), 0);
    due("joined(3, 2) of 20 and none", x.joined(3, 2), 2);
    due("joined(0, 2) of 40", x.joined(0, 2), NONE);
    AgeKeys y = new AgeKeys(2, 1);
    readings(y, 0, 0, 0, 10);
    readings(y, 1, 0, 0, 11);
    due("joined(0, 1) of 21", y.joined(0, 1), NONE);
    due("groups()", y.groups(), 2);
  }

  @Says(promise = 8, words = "(of all places)")
  static void theTwentyOfJoinedGroupsAreOfAllPlaces() {
    AgeKeys x = new AgeKeys(2, 1);
    for (int place = 0; place < 4; place++) {
      readings(x, 0, 0, place, 3);
      readings(x, 1, 0, place, 2);
    }
    AgeKeys y = new AgeKeys(2, 1);
    for (int place = 0; place < 4; place++) {
      readings(y, 0, 0, place, 3);
      readings(y, 1, 0, place, 2);
    }
    readings(y, 1, 0, 3, 1);
    x.place(0);
    y.place(0);
    due("joined(0, 1) of 20", x.joined(0, 1), 0);
    due("joined(0, 1) of 21, 5 here", y.joined(0, 1), NONE);
    due("the 21st of a joined group", x.read(1, 0, 0), false);
  }

  // ---- promise 9: sample ----

  @Says(promise = 9, words = "So many fish more were measured in a class.")
  static void samplesAddUp() {
    AgeKeys x = new AgeKeys(2, 2);
    readings(x, 0, 0, 0, 1);
    readings(x, 1, 1, 0, 1);
    due("sample(0, 1)", x.sample(0, 1), true);
    due("sample(1, 1)", x.sample(1, 1), true);
    due("sample(0, 2)", x.sample(0, 2), true);
    raised(x, 1, 0, 3, 4);
  }

  @Says(promise = 9, words = "False when there is none such")
  static void sampleRefusesOtherClasses() {
    AgeKeys x = new AgeKeys(3, 1);
    outside("sample", 3, 0, cls -> asNumber(x.sample(cls, 1)));
    due("sample(0, 5000)", x.sample(0, 5000), true);
    due("sample(2, 5000)", x.sample(2, 5000), true);
  }

  @Says(promise = 9, words = "or n is below 0")
  static void sampleRefusesLessThanNothing() {
    AgeKeys x = new AgeKeys(2, 1);
    readings(x, 0, 0, 0, 1);
    due("sample(0, 5)", x.sample(0, 5), true);
    for (long n : new long[] {-1, -5, -6, -10000, Integer.MIN_VALUE, -(1L << 32), Long.MIN_VALUE, Long.MIN_VALUE + 1}) {
      due("sample(0, " + n + ")", x.sample(0, n), false);
      due("sample(1, " + n + ")", x.sample(1, n), false);
    }
    raised(x, 3, 0, 3, 1);
    due("sample(0, 0)", x.sample(0, 0), true);
    due("sample(0, 9995)", x.sample(0, 9995), true);
  }

  @Says(promise = 9, words = "or there would be more than 10000 in all classes")
  static void tenThousandFishAreTheMost() {
    AgeKeys x = new AgeKeys(3, 1);
    for (long n : new long[] {10001, 1L << 31, 1L << 32, (1L << 32) + 1, Long.MAX_VALUE}) {
      due("sample(0, " + n + ")", x.sample(0, n), false);
    }
    due("sample(0, 10000)", x.sample(0, 10000), true);
    due("sample(0, 1)", x.sample(0, 1), false);
    due("sample(1, 1)", x.sample(1, 1), false);
    due("sample(1, 0)", x.sample(1, 0), true);
    AgeKeys y = new AgeKeys(3, 1);
    due("sample(0, 3333)", y.sample(0, 3333), true);
    due("sample(1, 3333)", y.sample(1, 3333), true);
    due("sample(2, 3335) of 10001", y.sample(2, 3335), false);
    due("sample(2, MAX), which wraps around", y.sample(2, Long.MAX_VALUE), false);
    due("sample(2, MAX - 6666)", y.sample(2, Long.MAX_VALUE - 6666), false);
    due("sample(2, 3334) of 10000", y.sample(2, 3334), true);
    due("sample(2, 1)", y.sample(2, 1), false);
  }

  // ---- promise 10: raised ----

  private static AgeKeys measured() {
    AgeKeys x = new AgeKeys(3, 2);
    readings(x, 1, 0, 0, 1);
    readings(x, 1, 1, 0, 2);
    due("sample(1, 7)", x.sample(1, 7), true);
    return x;
  }

  @Says(promise = 10, words = "NONE when number is not 0 .. 10000")
  static void aCatchIsOfTenThousandFishAtMost() {
    AgeKeys x = measured();
    long[] numbers = {-1, -2, 10001, 1L << 31, 1L << 32, (1L << 32) + 3, Long.MAX_VALUE, Long.MIN_VALUE};
    for (long number : numbers) raised(x, number, 1, NONE, NONE);
    raised(x, 0, 1, 0, 1);
    raised(x, 1, 1, 2, 3);
    raised(x, 10000, 1, 20000, 3);
  }

  @Says(promise = 10, words = "or there is no such age")
  static void raisedRefusesOtherAges() {
    AgeKeys x = measured();
    outside("raised", 2, NONE, age -> x.raised(3, age, 0));
    outside("raised", 2, NONE, age -> x.raised(3, age, 1));
    raised(x, 3, 0, 1, 1);
    raised(x, 3, 1, 2, 1);
  }

  @Says(promise = 10, words = "or nothing was measured")
  static void nothingIsRaisedWhenNothingWasMeasured() {
    AgeKeys x = oneReadingEach();
    raised(x, 3, 1, NONE, NONE);
    raised(x, 0, 1, NONE, NONE);
    due("sample(1, 0)", x.sample(1, 0), true);
    raised(x, 3, 1, NONE, NONE);
    due("sample(1, 1)", x.sample(1, 1), true);
    raised(x, 3, 1, 3, 1);
  }

  @Says(promise = 10, words = "or a class with some measured has no share")
  static void aMeasuredClassWithoutShareIsNotRaised() {
    AgeKeys x = measured();
    due("sample(2, 0)", x.sample(2, 0), true);
    raised(x, 3, 1, 2, 1);
    due("sample(2, 1)", x.sample(2, 1), true);
    raised(x, 3, 1, NONE, NONE);
    raised(x, 0, 1, NONE, NONE);
    due("fill(2)", x.fill(2), 1);
    raised(x, 3, 1, 2, 1);
    // Filled by one that is empty now.
    x.place(3);
    raised(x, 3, 1, NONE, NONE);
    x.place(NONE);
    due("sample(0, 1)", x.sample(0, 1), true);
    raised(x, 3, 1, NONE, NONE);
    due("joined(0, 1)", x.joined(0, 1), 0);
    raised(x, 3, 1, NONE, NONE);
    due("fill(2), which was filled by one of both", x.fill(2), 0);
    raised(x, 3, 1, 2, 1);
  }

  @Says(promise = 10, words = "or for other parts")
  static void raisedRefusesOtherParts() {
    AgeKeys x = measured();
    otherChoices("raised", part -> x.raised(3, 1, part));
    raised(x, 3, 1, 2, 1);
  }

  // ---- promise 11: sums ----

  @Says(promise = 11, words = "Whether what raised() tells for all ages is number together")
  static void whatIsRaisedComesToTheWholeCatch() {
    AgeKeys x = new AgeKeys(10, 6);
    int[] sizes = {3, 7, 11, 13, 17, 19, 9, 8, 5, 1};
    for (int cls = 0; cls < 10; cls++) {
      for (int i = 0; i < sizes[cls]; i++) due("read", x.read(cls, (i + cls) % 6, i % 4), true);
      due("sample(" + cls + ", " + (997 + cls % 2) + ")", x.sample(cls, 997 + cls % 2), true);
    }
    for (long number : new long[] {0, 1, 2, 9999, 10000}) due("sums(" + number + ")", x.sums(number), true);
  }

  @Says(promise = 11, words = "false when it tells NONE")
  static void nothingComesToACatchThatIsNotRaised() {
    AgeKeys x = measured();
    long[] numbers = {-1, 10001, 1L << 32, Long.MAX_VALUE, Long.MIN_VALUE};
    for (long number : numbers) due("sums(" + number + ")", x.sums(number), false);
    due("sums(0)", x.sums(0), true);
    due("sample(0, 1)", x.sample(0, 1), true);
    due("sums(0) without a share", x.sums(0), false);
    due("sums(3) without a share", x.sums(3), false);
    due("fill(0)", x.fill(0), 1);
    due("sums(3)", x.sums(3), true);
    x.place(2);
    due("sums(3) where none has readings", x.sums(3), false);
    AgeKeys y = oneReadingEach();
    due("sums(0) without samples", y.sums(0), false);
    due("sums(3) without samples", y.sums(3), false);
  }

  // ---- promise 12: without ----

  @Says(promise = 12, words = "The least (end 0) or greatest (end 1) share of an age")
  static void withoutTellsBothEnds() {
    AgeKeys x = new AgeKeys(2, 3);
    readings(x, 0, 0, 0, 1);
    readings(x, 0, 1, 0, 1);
    // One of each: whichever is left out, the shares are 0 and 1.
    without(x, 0, 0, 0, 0, 1);
    without(x, 0, 0, 1, 1, 1);
    // None of an age, and all of an age: leaving one out changes nothing.
    without(x, 0, 2, 0, 0, 1);
    without(x, 0, 2, 1, 0, 1);
    readings(x, 1, 2, 0, 20);
    without(x, 1, 2, 0, 1, 1);
    without(x, 1, 2, 1, 1, 1);
    without(x, 1, 0, 0, 0, 1);
    without(x, 1, 0, 1, 0, 1);
  }

  private static AgeKeys threeReadings() {
    AgeKeys x = new AgeKeys(3, 2);
    readings(x, 1, 0, 0, 1);
    readings(x, 1, 1, 0, 2);
    return x;
  }

  @Says(promise = 12, words = "NONE when there is no such class")
  static void withoutRefusesOtherClasses() {
    AgeKeys x = threeReadings();
    readings(x, 0, 0, 0, 2);
    readings(x, 2, 0, 0, 2);
    outside("without", 3, NONE, cls -> x.without(cls, 0, 0, 0));
    outside("without", 3, NONE, cls -> x.without(cls, 0, 1, 1));
    without(x, 0, 0, 0, 1, 1);
    without(x, 2, 0, 0, 1, 1);
  }

  @Says(promise = 12, words = "NONE when there is no such [..] age")
  static void withoutRefusesOtherAges() {
    AgeKeys x = threeReadings();
    outside("without", 2, NONE, age -> x.without(1, age, 0, 0));
    outside("without", 2, NONE, age -> x.without(1, age, 1, 1));
    without(x, 1, 0, 1, 1, 2);
    without(x, 1, 1, 0, 1, 2);
  }

  @Says(promise = 12, words = "or the group has fewer than two readings of its own")
  static void withoutNeedsTwoReadingsOfTheGroupsOwn() {
    AgeKeys x = new AgeKeys(3, 1);
    without(x, 0, 0, 0, NONE, NONE);
    readings(x, 0, 0, 0, 1);
    without(x, 0, 0, 0, NONE, NONE);
    without(x, 0, 0, 1, NONE, NONE);
    readings(x, 0, 0, 1, 1);
    without(x, 0, 0, 0, 1, 1);
    due("fill(1)", x.fill(1), 0);
    without(x, 1, 0, 0, NONE, NONE);
    x.place(1);
    without(x, 0, 0, 1, NONE, NONE);
    x.place(NONE);
    readings(x, 1, 0, 0, 1);
    without(x, 1, 0, 0, NONE, NONE);
    readings(x, 2, 0, 0, 1);
    due("joined(1, 2)", x.joined(1, 2), 1);
    without(x, 1, 0, 0, 1, 1);
  }

  @Says(promise = 12, words = "or for others")
  static void withoutRefusesOtherEndsAndParts() {
    AgeKeys x = threeReadings();
    otherChoices("without, end", end -> x.without(1, 0, end, 0));
    otherChoices("without, end", end -> x.without(1, 0, end, 1));
    otherChoices("without, part", part -> x.without(1, 0, 0, part));
    otherChoices("without, part", part -> x.without(1, 0, 1, part));
    without(x, 1, 0, 0, 0, 1);
    without(x, 1, 0, 1, 1, 2);
  }

  // ---- promise 13: error ----

  @Says(promise = 13, words = "(twenty as itself, none as others at first)")
  static void atFirstEachAgeIsReadAsItself() {
    AgeKeys x = new AgeKeys(1, 6);
    due("undo()", x.undo(), 0);
    for (int age = 0; age < 6; age++) readings(x, 0, age, 0, age == 5 ? 5 : age);
    for (int age = 0; age < 6; age++) undone(x, 0, age, age, 1);
  }

  @Says(promise = 13, words = "False when there are no such ages")
  static void errorRefusesOtherAges() {
    AgeKeys x = new AgeKeys(1, 3);
    outside("error from", 3, 0, age -> asNumber(x.error(age, 0, 5)));
    outside("error to", 3, 0, age -> asNumber(x.error(0, age, 5)));
    outside("error from and to", 3, 0, age -> asNumber(x.error(age, age, 5)));
    due("undo()", x.undo(), 0);
    due("error(2, 0, 5)", x.error(2, 0, 5), true);
    due("error(0, 2, 5)", x.error(0, 2, 5), true);
  }

  @Says(promise = 13, words = "or it is not 0 .. 20")
  static void errorsAreOfTwentyFish() {
    AgeKeys x = new AgeKeys(1, 2);
    int[] others = {-1, 21, -20, 40, 256, 276, 1 << 16, Integer.MAX_VALUE, Integer.MIN_VALUE};
    for (int twentieths : others) {
      due("error(0, 0, " + twentieths + ")", x.error(0, 0, twentieths), false);
      due("error(0, 1, " + twentieths + ")", x.error(0, 1, twentieths), false);
    }
    due("undo()", x.undo(), 0);
    due("error(0, 0, 0)", x.error(0, 0, 0), true);
    due("undo() of too few", x.undo(), 2);
    due("error(0, 0, 20)", x.error(0, 0, 20), true);
    due("undo()", x.undo(), 0);
  }

  // ---- promise 14: undo ----

  @Says(promise = 14, words = "0 when for each true age the errors come to twenty and one can go back")
  static void oneCanGoBackWhereNoRowFollowsFromOthers() {
    AgeKeys x = new AgeKeys(1, 6);
    for (int age = 0; age < 6; age++) errors(x, age, 0, 0, 0, 0, 0, 0);
    for (int age = 0; age < 6; age++) due("error", x.error(age, 5 - age, 20), true);
    due("undo() of ages turned round", x.undo(), 0);
    AgeKeys y = new AgeKeys(1, 2);
    errors(y, 0, 10, 10);
    errors(y, 1, 9, 11);
    due("undo() of nearly the same errors", y.undo(), 0);
    due("undo() of one age", new AgeKeys(1, 1).undo(), 0);
  }

  @Says(promise = 14, words = "1 when they come to twenty, but one can't")
  static void oneCanNotGoBackFromTheSameErrors() {
    AgeKeys x = new AgeKeys(1, 2);
    errors(x, 0, 10, 10);
    errors(x, 1, 10, 10);
    due("undo() of the same errors", x.undo(), 1);
    AgeKeys y = new AgeKeys(1, 6);
    for (int age = 0; age < 6; age++) errors(y, age, 20, 0, 0, 0, 0, 0);
    due("undo() of all ages read as the first", y.undo(), 1);
    for (int age = 0; age < 6; age++) errors(y, age, 0, 0, 0, 0, 0, 20);
    due("undo() of all ages read as the last", y.undo(), 1);
    // No two are the same, but the last is the mean of the first two.
    AgeKeys z = new AgeKeys(1, 3);
    errors(z, 0, 20, 0, 0);
    errors(z, 1, 0, 20, 0);
    errors(z, 2, 10, 10, 0);
    due("undo() of a mean", z.undo(), 1);
  }

  @Says(promise = 14, words = "2 when they don't")
  static void errorsThatDoNotComeToTwenty() {
    for (int age = 0; age < 6; age++) {
      AgeKeys x = new AgeKeys(1, 6);
      due("error to 19", x.error(age, age, 19), true);
      due("undo() of 19 for age " + age, x.undo(), 2);
      due("error to 1", x.error(age, (age + 1) % 6, 1), true);
      due("undo() of 20 for age " + age, x.undo(), 0);
      due("error to 2", x.error(age, (age + 1) % 6, 2), true);
      due("undo() of 21 for age " + age, x.undo(), 2);
    }
    // Too many for one age and too few for the other; the same errors that don't come to twenty.
    AgeKeys y = new AgeKeys(1, 2);
    errors(y, 0, 20, 1);
    errors(y, 1, 0, 19);
    due("undo() of 21 and 19", y.undo(), 2);
    errors(y, 0, 5, 5);
    errors(y, 1, 5, 5);
    due("undo() of ten and ten", y.undo(), 2);
    errors(y, 0, 0, 0);
    errors(y, 1, 0, 0);
    due("undo() of none", y.undo(), 2);
    errors(y, 0, 20, 20);
    errors(y, 1, 20, 20);
    due("undo() of forty", y.undo(), 2);
  }

  // ---- promise 15: undone ----

  @Says(promise = 15, words = "How many of the group's own readings are truly of an age")
  static void anEmptyGroupHasNoneOfAnyAge() {
    AgeKeys x = new AgeKeys(3, 2);
    readings(x, 0, 0, 0, 4);
    errors(x, 0, 19, 1);
    undone(x, 1, 0, 0, 1);
    undone(x, 1, 1, 0, 1);
    due("fill(1)", x.fill(1), 0);
    undone(x, 1, 0, 0, 1);
    x.place(1);
    undone(x, 0, 0, 0, 1);
  }

  @Says(promise = 15, words = "its number times twenty is the sum of all true numbers times their errors to it")
  static void theLargestEquationsAreExact() {
    AgeKeys x = new AgeKeys(1, 6);
    readings(x, 0, 5, 0, 20);
    // Each age is read as itself 11 times of twenty and as the next one 9 times.
    for (int age = 0; age < 6; age++) {
      due("error", x.error(age, age, 11), true);
      due("error", x.error(age, (age + 1) % 6, 9), true);
    }
    // 11 t[a] + 9 t[a - 1] = 0 but for age 5, where it is 400: t[a] = t[5] * (-9 / 11)^(a + 1) for a below 5.
    long whole = 11L * 11 * 11 * 11 * 11 * 11 - 9L * 9 * 9 * 9 * 9 * 9;
    long[] above = new long[6];
    above[5] = 400L * 11 * 11 * 11 * 11 * 11;
    long power = 1;
    for (int age = 0; age < 5; age++) {
      power *= -9;
      long rest = 1;
      for (int i = 0; i < 4 - age; i++) rest *= 11;
      above[age] = 400L * power * rest;
    }
    for (int age = 0; age < 6; age++) {
      long divisor = greatestCommon(Math.abs(above[age]), whole);
      undone(x, 0, age, above[age] / divisor, whole / divisor);
    }
  }

  private static long greatestCommon(long a, long b) {
    return b == 0 ? a : greatestCommon(b, a % b);
  }

  @Says(promise = 15, words = "(below 0, too)")
  static void whatIsUndoneMayBeBelowZero() {
    AgeKeys x = new AgeKeys(1, 2);
    readings(x, 0, 0, 0, 20);
    errors(x, 0, 11, 9);
    errors(x, 1, 10, 10);
    undone(x, 0, 0, 200, 1);
    undone(x, 0, 1, -180, 1);
  }

  @Says(promise = 15, words = "NONE (which it may be, too)")
  static void whatIsUndoneMayBeNoneItself() {
    AgeKeys x = new AgeKeys(1, 2);
    readings(x, 0, 0, 0, 1);
    errors(x, 0, 10, 10);
    undone(x, 0, 0, 2, 1);
    due("undone(0, 1, 0)", x.undone(0, 1, 0), -1);
    due("undone(0, 1, 1)", x.undone(0, 1, 1), 1);
  }

  @Says(promise = 15, words = "when there is no such class")
  static void undoneRefusesOtherClasses() {
    AgeKeys x = oneReadingEach();
    outside("undone", 3, NONE, cls -> x.undone(cls, 1, 0));
    outside("undone", 3, NONE, cls -> x.undone(cls, 1, 1));
    undone(x, 0, 1, 1, 1);
    undone(x, 2, 1, 1, 1);
  }

  @Says(promise = 15, words = "when there is no such [..] age")
  static void undoneRefusesOtherAges() {
    AgeKeys x = oneReadingEach();
    outside("undone", 2, NONE, age -> x.undone(1, age, 0));
    outside("undone", 2, NONE, age -> x.undone(1, age, 1));
    undone(x, 1, 0, 0, 1);
    undone(x, 1, 1, 1, 1);
  }

  @Says(promise = 15, words = "or undo() is not 0")
  static void undoneNeedsErrorsThatOneCanGoBackFrom() {
    AgeKeys x = oneReadingEach();
    errors(x, 0, 19, 0);
    due("undo()", x.undo(), 2);
    undone(x, 1, 0, NONE, NONE);
    undone(x, 1, 1, NONE, NONE);
    errors(x, 0, 0, 20);
    due("undo()", x.undo(), 1);
    undone(x, 1, 0, NONE, NONE);
    undone(x, 1, 1, NONE, NONE);
    errors(x, 0, 20, 0);
    undone(x, 1, 1, 1, 1);
  }

  @Says(promise = 15, words = "or for other parts")
  static void undoneRefusesOtherParts() {
    AgeKeys x = oneReadingEach();
    otherChoices("undone", part -> x.undone(1, 1, part));
    undone(x, 1, 1, 1, 1);
  }

  // ---- promise 16: apart ----

  @Says(promise = 16, words = "the size of the difference between the shares")
  static void placesAreApartByTwoAtMost() {
    AgeKeys x = new AgeKeys(10, 6);
    readings(x, 0, 0, 0, 19);
    readings(x, 9, 5, 3, 20);
    apart(x, 0, 3, 2, 1);
    apart(x, 3, 0, 2, 1);
    apart(x, 3, 3, 0, 1);
    readings(x, 1, 0, 1, 1);
    readings(x, 0, 1, 2, 1);
    // Of the same age, or of the same class, is not of the same class and age.
    apart(x, 0, 1, 2, 1);
    apart(x, 0, 2, 2, 1);
    // The same shares of different numbers are not apart.
    AgeKeys y = new AgeKeys(2, 2);
    readings(y, 0, 0, 0, 1);
    readings(y, 1, 1, 0, 2);
    readings(y, 0, 0, 1, 5);
    readings(y, 1, 1, 1, 10);
    apart(y, 0, 1, 0, 1);
  }

  @Says(promise = 16, words = "NONE when there are no such places")
  static void apartRefusesOtherPlaces() {
    AgeKeys x = new AgeKeys(1, 1);
    for (int place = 0; place < 4; place++) readings(x, 0, 0, place, 1);
    outside("apart", 4, NONE, place -> x.apart(place, 1, 0));
    outside("apart", 4, NONE, place -> x.apart(1, place, 0));
    outside("apart", 4, NONE, place -> x.apart(place, place, 1));
    apart(x, 0, 3, 0, 1);
    apart(x, 3, 0, 0, 1);
  }

  @Says(promise = 16, words = "or one has no reading")
  static void apartRefusesPlacesWithoutReadings() {
    AgeKeys x = new AgeKeys(1, 1);
    apart(x, 0, 1, NONE, NONE);
    apart(x, 2, 2, NONE, NONE);
    readings(x, 0, 0, 1, 1);
    apart(x, 0, 1, NONE, NONE);
    apart(x, 1, 0, NONE, NONE);
    apart(x, 0, 0, NONE, NONE);
    apart(x, 1, 1, 0, 1);
    readings(x, 0, 0, 0, 1);
    apart(x, 0, 1, 0, 1);
  }

  @Says(promise = 16, words = "or for other parts")
  static void apartRefusesOtherParts() {
    AgeKeys x = new AgeKeys(2, 1);
    readings(x, 0, 0, 0, 1);
    readings(x, 1, 0, 1, 1);
    otherChoices("apart", part -> x.apart(0, 1, part));
    apart(x, 0, 1, 2, 1);
  }

  // ---- promise 17: length ----

  @Says(promise = 17, words = "numbers that never fall from age to age")
  static void meanClassesNeverFall() {
    AgeKeys x = new AgeKeys(10, 6);
    for (int age = 0; age < 6; age++) readings(x, 9 - age, age, 0, 1);
    for (int age = 0; age < 6; age++) length(x, age, 13, 2);
    AgeKeys y = new AgeKeys(10, 6);
    for (int age = 0; age < 6; age++) readings(y, age + 4, age, 0, age + 1);
    for (int age = 0; age < 6; age++) length(y, age, age + 4, 1);
  }

  @Says(promise = 17, words = "the sum, over all readings, of the squares of the differences [..] is the least")
  static void agesWithMoreReadingsWeighMore() {
    AgeKeys x = new AgeKeys(10, 2);
    readings(x, 9, 0, 0, 1);
    readings(x, 0, 1, 0, 17);
    length(x, 0, 1, 2);
    length(x, 1, 1, 2);
  }

  @Says(promise = 17, words = "ages 0, 1, .. that have readings (of the place that is chosen)")
  static void meanClassesGoByThePlaceThatIsChosen() {
    AgeKeys x = new AgeKeys(10, 3);
    readings(x, 9, 0, 0, 1);
    readings(x, 3, 2, 0, 1);
    readings(x, 1, 1, 1, 1);
    length(x, 0, 13, 3);
    length(x, 1, 13, 3);
    x.place(0);
    length(x, 0, 6, 1);
    length(x, 1, NONE, NONE);
    length(x, 2, 6, 1);
    x.place(1);
    length(x, 0, NONE, NONE);
    length(x, 1, 1, 1);
    x.place(2);
    for (int age = 0; age < 3; age++) length(x, age, NONE, NONE);
    readings(x, 1, 0, 3, 1);
    x.place(3);
    length(x, 0, 1, 1);
    x.place(0);
    length(x, 0, 6, 1);
  }

  @Says(promise = 17, words = "NONE when there is no such age")
  static void lengthRefusesOtherAges() {
    AgeKeys x = new AgeKeys(3, 2);
    readings(x, 1, 0, 0, 1);
    readings(x, 2, 1, 0, 1);
    outside("length", 2, NONE, age -> x.length(age, 0));
    outside("length", 2, NONE, age -> x.length(age, 1));
    length(x, 0, 1, 1);
    length(x, 1, 2, 1);
  }

  @Says(promise = 17, words = "or it has no readings")
  static void anAgeWithoutReadingsHasNoLength() {
    AgeKeys x = new AgeKeys(3, 6);
    for (int age = 0; age < 6; age++) length(x, age, NONE, NONE);
    readings(x, 2, 0, 0, 1);
    readings(x, 1, 3, 0, 1);
    for (int age : new int[] {1, 2, 4, 5}) length(x, age, NONE, NONE);
    length(x, 0, 3, 2);
    length(x, 3, 3, 2);
  }

  @Says(promise = 17, words = "or for other parts")
  static void lengthRefusesOtherParts() {
    AgeKeys x = new AgeKeys(3, 1);
    readings(x, 2, 0, 0, 1);
    otherChoices("length", part -> x.length(0, part));
    length(x, 0, 2, 1);
  }

  // ---- promise 18: pooled ----

  @Says(promise = 18, words = "Among how many ages, one behind the other (of those with readings)")
  static void pooledCountsAgesWithReadingsAlone() {
    AgeKeys x = new AgeKeys(10, 6);
    readings(x, 5, 0, 0, 1);
    due("pooled(0) alone", x.pooled(0), 1);
    readings(x, 3, 5, 0, 1);
    due("pooled(0), four ages without readings between", x.pooled(0), 2);
    due("pooled(5)", x.pooled(5), 2);
    for (int age = 1; age < 5; age++) readings(x, 4, age, 1, 1);
    for (int age = 0; age < 6; age++) due("pooled(" + age + ") of all", x.pooled(age), 6);
    x.place(0);
    due("pooled(0) of place 0", x.pooled(0), 2);
    due("pooled(1) of place 0", x.pooled(1), 0);
  }

  @Says(promise = 18, words = "those with the same number")
  static void pooledCountsTheSameNumber() {
    AgeKeys x = new AgeKeys(10, 4);
    readings(x, 3, 0, 0, 1);
    readings(x, 3, 1, 0, 1);
    readings(x, 4, 2, 0, 1);
    due("pooled(0), the same without falling", x.pooled(0), 2);
    due("pooled(1)", x.pooled(1), 2);
    due("pooled(2), greater by one", x.pooled(2), 1);
    // Two pools whose numbers turn out the same are shared by all of their ages.
    AgeKeys y = new AgeKeys(10, 4);
    readings(y, 5, 0, 0, 1);
    readings(y, 3, 1, 0, 1);
    readings(y, 6, 2, 0, 1);
    readings(y, 2, 3, 0, 1);
    for (int age = 0; age < 4; age++) {
      length(y, age, 4, 1);
      due("pooled(" + age + ")", y.pooled(age), 4);
    }
  }

  @Says(promise = 18, words = "0 when there is none such")
  static void pooledIsZeroForOtherAges() {
    AgeKeys x = new AgeKeys(3, 3);
    for (int age = 0; age < 3; age++) due("pooled(" + age + ") without readings", x.pooled(age), 0);
    readings(x, 0, 0, 0, 1);
    readings(x, 1, 2, 0, 1);
    outside("pooled", 3, 0, age -> x.pooled(age));
    due("pooled(0)", x.pooled(0), 1);
    due("pooled(1) without readings", x.pooled(1), 0);
    due("pooled(2)", x.pooled(2), 1);
  }

  // ---- promise 19: sex ----

  @Says(promise = 19, words = "(told anew)")
  static void sexIsToldAnewAndNotAdded() {
    AgeKeys x = new AgeKeys(2, 1);
    due("sex(0, 100, 100)", x.sex(0, 100, 100), true);
    due("sex(0, 1, 100)", x.sex(0, 1, 100), true);
    males(x, 0, 1, 100);
    due("sex(0, 0, 0)", x.sex(0, 0, 0), true);
    males(x, 0, NONE, NONE);
    due("sex(1, 3, 4)", x.sex(1, 3, 4), true);
    males(x, 0, NONE, NONE);
    males(x, 1, 3, 4);
  }

  @Says(promise = 19, words = "False when there is no such class")
  static void sexRefusesOtherClasses() {
    AgeKeys x = new AgeKeys(3, 1);
    outside("sex", 3, 0, cls -> asNumber(x.sex(cls, 1, 2)));
    for (int cls = 0; cls < 3; cls++) males(x, cls, NONE, NONE);
    due("sex(0, 1, 2)", x.sex(0, 1, 2), true);
    due("sex(2, 1, 2)", x.sex(2, 1, 2), true);
  }

  @Says(promise = 19, words = "or it is not 0 <= males")
  static void malesAreNotFewerThanNone() {
    AgeKeys x = new AgeKeys(1, 1);
    for (int few : new int[] {-1, -2, -100, -256, Integer.MIN_VALUE}) {
      due("sex(0, " + few + ", 1)", x.sex(0, few, 1), false);
      due("sex(0, " + few + ", " + few + ")", x.sex(0, few, few), false);
      due("sex(0, " + few + ", 0)", x.sex(0, few, 0), false);
    }
    males(x, 0, NONE, NONE);
    due("sex(0, 0, 1)", x.sex(0, 0, 1), true);
    males(x, 0, 0, 1);
  }

  @Says(promise = 19, words = "or it is not [..] males <= all")
  static void malesAreNotMoreThanAll() {
    AgeKeys x = new AgeKeys(1, 1);
    due("sex(0, 1, 0)", x.sex(0, 1, 0), false);
    due("sex(0, 100, 99)", x.sex(0, 100, 99), false);
    due("sex(0, MAX, 100)", x.sex(0, Integer.MAX_VALUE, 100), false);
    due("sex(0, 0, -1)", x.sex(0, 0, -1), false);
    due("sex(0, 0, MIN)", x.sex(0, 0, Integer.MIN_VALUE), false);
    due("sex(0, MAX, MIN), which wraps around", x.sex(0, Integer.MAX_VALUE, Integer.MIN_VALUE), false);
    males(x, 0, NONE, NONE);
    due("sex(0, 99, 99)", x.sex(0, 99, 99), true);
    males(x, 0, 1, 1);
  }

  @Says(promise = 19, words = "or it is not [..] all <= 100")
  static void aHundredAreLookedAtAtMost() {
    AgeKeys x = new AgeKeys(2, 1);
    for (int many : new int[] {101, 102, 256, 1 << 16, Integer.MAX_VALUE}) {
      due("sex(0, 1, " + many + ")", x.sex(0, 1, many), false);
      due("sex(0, " + many + ", " + many + ")", x.sex(0, many, many), false);
    }
    males(x, 0, NONE, NONE);
    due("sex(0, 1, 100)", x.sex(0, 1, 100), true);
    due("sex(1, 2, 100)", x.sex(1, 2, 100), true);
    males(x, 0, 1, 100);
    // A hundred in each class: of the group it may be more.
    due("joined(0, 1)", x.joined(0, 1), 0);
    males(x, 1, 3, 200);
  }

  // ---- promise 20: males ----

  @Says(promise = 20, words = "among all that were looked at in the classes of a group")
  static void malesAreOfTheWholeGroup() {
    AgeKeys x = new AgeKeys(10, 1);
    for (int cls = 0; cls < 10; cls++) due("sex", x.sex(cls, cls, 100), true);
    for (int cls = 1; cls < 10; cls++) due("joined(0, " + cls + ")", x.joined(0, cls), 0);
    for (int cls = 0; cls < 10; cls++) males(x, cls, 9, 200);
  }

  @Says(promise = 20, words = "NONE when there is no such class")
  static void malesRefusesOtherClasses() {
    AgeKeys x = new AgeKeys(3, 1);
    for (int cls = 0; cls < 3; cls++) due("sex", x.sex(cls, 1, 2), true);
    outside("males", 3, NONE, cls -> x.males(cls, 0));
    outside("males", 3, NONE, cls -> x.males(cls, 1));
    males(x, 0, 1, 2);
    males(x, 2, 1, 2);
  }

  @Says(promise = 20, words = "or none were")
  static void malesNeedsOneThatWasLookedAt() {
    AgeKeys x = new AgeKeys(3, 1);
    males(x, 0, NONE, NONE);
    readings(x, 0, 0, 0, 1);
    males(x, 0, NONE, NONE);
    due("sex(0, 0, 0)", x.sex(0, 0, 0), true);
    males(x, 0, NONE, NONE);
    due("sex(2, 0, 1)", x.sex(2, 0, 1), true);
    males(x, 0, NONE, NONE);
    males(x, 2, 0, 1);
    due("joined(0, 2)", x.joined(0, 2), 0);
    males(x, 0, 0, 1);
    males(x, 1, NONE, NONE);
    due("sex(2, 0, 0)", x.sex(2, 0, 0), true);
    males(x, 2, NONE, NONE);
  }

  @Says(promise = 20, words = "or for other parts")
  static void malesRefusesOtherParts() {
    AgeKeys x = new AgeKeys(1, 1);
    due("sex(0, 1, 2)", x.sex(0, 1, 2), true);
    otherChoices("males", part -> x.males(0, part));
    males(x, 0, 1, 2);
  }

  // ---- promise 21: groups ----

  @Says(promise = 21, words = "How many groups there are.")
  static void groupsGoFromAllClassesToOne() {
    AgeKeys x = new AgeKeys(10, 1);
    due("groups()", x.groups(), 10);
    for (int cls = 8; cls >= 0; cls--) {
      due("joined(9, " + cls + ")", x.joined(9, cls), cls);
      due("groups()", x.groups(), cls + 1);
      due("joined(9, " + cls + ") again", x.joined(9, cls), NONE);
      due("groups()", x.groups(), cls + 1);
    }
    due("groups() of one class", new AgeKeys(1, 1).groups(), 1);
  }

  @Says(promise = 21, words = "How many groups there are.")
  static void readingFillingAndChoosingMakeNoGroups() {
    AgeKeys x = new AgeKeys(3, 1);
    readings(x, 0, 0, 0, 20);
    due("fill(1)", x.fill(1), 0);
    x.place(3);
    due("groups()", x.groups(), 3);
    x.place(NONE);
    readings(x, 2, 0, 0, 1);
    due("joined(0, 2) of 21", x.joined(0, 2), NONE);
    due("groups()", x.groups(), 3);
  }

  // ---- all of them ----

  private static void run(Method test) throws IllegalAccessException {
    Says says = test.getAnnotation(Says.class);
    String where = says.promise() == TERMS ? "terms" : "promise " + says.promise();
    sentence = where + ", \"" + says.words() + "\", " + test.getName();
    try {
      test.invoke(null);
    } catch (InvocationTargetException e) {
      wrong++;
      System.out.println(sentence + ": threw " + e.getCause());
    }
  }

  public static void main(String[] args) throws IllegalAccessException {
    List<Method> tests = new ArrayList<>();
    int[] ofPromise = new int[LAST_PROMISE + 1];
    for (Method method : BoundaryTests.class.getDeclaredMethods()) {
      Says says = method.getAnnotation(Says.class);
      if (says == null) continue;
      tests.add(method);
      ofPromise[says.promise()]++;
    }
    tests.sort(Comparator.comparingInt((Method m) -> m.getAnnotation(Says.class).promise()).thenComparing(Method::getName));
    for (Method test : tests) run(test);
    sentence = "tests";
    for (int promise = 0; promise <= LAST_PROMISE; promise++) {
      due("promise " + promise + " has tests", ofPromise[promise] > 0, true);
    }
    System.out.println(wrong == 0
        ? "all answers are as due in " + tests.size() + " tests"
        : wrong + " answers are not as due");
    if (wrong != 0) System.exit(1);
  }
}
