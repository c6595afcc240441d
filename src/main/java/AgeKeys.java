/**
 * Keys from lengths to ages: counted readings by place and class of length, raised, corrected and compared
 * by exact fractions. DOC.md tells what each call promises.
 *
 * All rows are made in the constructor and used again, so that no call makes an object.
 */
public final class AgeKeys {
    public static final int NONE = -1;

    private static final int MOST_CLASSES = 10;
    private static final int MOST_AGES = 6;
    private static final int PLACES = 4;
    // The row behind those of the places counts the readings of all of them.
    private static final int ALL = PLACES;
    private static final int ROWS = PLACES + 1;
    private static final int MOST_IN_GROUP = 20;
    private static final int MOST_READINGS = 100;
    private static final long MOST_FISH = 10000;
    private static final int MOST_LOOKED_AT = 100;
    private static final int TWENTY = 20;
    // The least number that every size of a group (1 .. MOST_IN_GROUP) divides: shares over it add up exactly.
    private static final long COMMON_BELOW = 232792560L;
    // Euclid's way is at its end after 91 steps at most for any two longs.
    private static final int MOST_DIVISOR_STEPS = 100;

    private final int classes;
    private final int ages;
    private int chosenRow = ALL;

    private final int[] readings;
    private final int[] rowSize;
    // Both stand at the least class of each group; what stands at other classes is never asked for.
    private final int[] groupReadings;
    private final int[] groupSize;
    private final int[] groupOf;
    // Kept while the group has readings of its own, because choosing another place may leave it empty again.
    private final int[] filledBy;

    private final long[] measured;
    private long measuredInAll = 0;

    private final int[] errors;
    private final long[] square;

    private final int[] poolSum;
    private final int[] poolSize;
    private final int[] poolAges;
    private final int[] poolLastAge;

    private final int[] maleCount;
    private final int[] lookedAt;

    public AgeKeys(int classes, int ages) {
        this.classes = Math.max(1, Math.min(MOST_CLASSES, classes));
        this.ages = Math.max(1, Math.min(MOST_AGES, ages));
        readings = new int[ROWS * this.classes * this.ages];
        rowSize = new int[ROWS];
        groupReadings = new int[ROWS * this.classes * this.ages];
        groupSize = new int[ROWS * this.classes];
        groupOf = new int[this.classes];
        filledBy = new int[this.classes];
        measured = new long[this.classes];
        errors = new int[this.ages * this.ages];
        square = new long[this.ages * this.ages];
        poolSum = new int[this.ages];
        poolSize = new int[this.ages];
        poolAges = new int[this.ages];
        poolLastAge = new int[this.ages];
        maleCount = new int[this.classes];
        lookedAt = new int[this.classes];
        for (int cls = 0; cls < this.classes; cls++) {
            groupOf[cls] = cls;
            filledBy[cls] = NONE;
        }
        for (int age = 0; age < this.ages; age++) {
            errors[age * this.ages + age] = TWENTY;
        }
    }

    // ---- readings and places ----

    public boolean read(int length, int age, int place) {
        if (!isClass(length) || !isAge(age) || !isPlace(place)) {
            return false;
        }
        if (sizeIn(ALL, groupOf[length]) >= MOST_IN_GROUP || rowSize[ALL] >= MOST_READINGS) {
            return false;
        }
        countReading(place, length, age);
        countReading(ALL, length, age);
        return true;
    }

    public int place(int p) {
        if (p != NONE && !isPlace(p)) {
            return NONE;
        }
        chosenRow = p == NONE ? ALL : p;
        return rowSize[chosenRow];
    }

    private void countReading(int row, int cls, int age) {
        int group = groupOf[cls];
        readings[cell(row, cls, age)]++;
        rowSize[row]++;
        groupReadings[cell(row, group, age)]++;
        groupSize[row * classes + group]++;
    }

    // ---- shares ----

    public long share(int cls, int age, int part) {
        if (!isClass(cls) || !isAge(age) || !isZeroOrOne(part)) {
            return NONE;
        }
        int source = sourceOf(groupOf[cls]);
        if (source == NONE) {
            return NONE;
        }
        return fractionPart(ownOfAge(source, age), own(source), part);
    }

    public long without(int cls, int age, int end, int part) {
        if (!isClass(cls) || !isAge(age) || !isZeroOrOne(end) || !isZeroOrOne(part)) {
            return NONE;
        }
        int size = own(groupOf[cls]);
        if (size < 2) {
            return NONE;
        }
        int ofAge = ownOfAge(groupOf[cls], age);
        boolean ofAgeIsLeftOut = end == 0 ? ofAge > 0 : ofAge == size;
        return fractionPart(ofAgeIsLeftOut ? ofAge - 1 : ofAge, size - 1, part);
    }

    /** The group whose readings count for a group in shares and raising; NONE when there are no readings. */
    private int sourceOf(int group) {
        if (own(group) > 0) {
            return group;
        }
        int filler = filledBy[group];
        return filler != NONE && own(filler) > 0 ? filler : NONE;
    }

    // ---- groups, empty ones and filled ones ----

    public int empty(int k) {
        int before = 0;
        for (int cls = 0; cls < classes; cls++) {
            if (isLeastOfGroup(cls) && own(cls) == 0 && filledBy[cls] == NONE) {
                if (before == k) {
                    return cls;
                }
                before++;
            }
        }
        return NONE;
    }

    public int fill(int cls) {
        if (!isClass(cls) || own(groupOf[cls]) > 0) {
            return NONE;
        }
        int nearest = nearestWithReadings(groupOf[cls]);
        if (nearest != NONE) {
            filledBy[groupOf[cls]] = nearest;
        }
        return nearest;
    }

    public boolean marked(int cls) {
        return isClass(cls) && filledBy[groupOf[cls]] != NONE && own(groupOf[cls]) == 0;
    }

    public int joined(int clsA, int clsB) {
        if (!isClass(clsA) || !isClass(clsB)) {
            return NONE;
        }
        int into = Math.min(groupOf[clsA], groupOf[clsB]);
        int from = Math.max(groupOf[clsA], groupOf[clsB]);
        if (into == from || sizeIn(ALL, into) + sizeIn(ALL, from) > MOST_IN_GROUP) {
            return NONE;
        }
        dropFills(into, from);
        moveReadings(into, from);
        for (int cls = 0; cls < classes; cls++) {
            if (groupOf[cls] == from) {
                groupOf[cls] = into;
            }
        }
        return into;
    }

    public int groups() {
        int count = 0;
        for (int cls = 0; cls < classes; cls++) {
            if (isLeastOfGroup(cls)) {
                count++;
            }
        }
        return count;
    }

    private int nearestWithReadings(int emptyGroup) {
        int nearest = NONE;
        int leastDistance = classes;
        for (int cls = 0; cls < classes; cls++) {
            int group = groupOf[cls];
            if (own(group) == 0) {
                continue;
            }
            int distance = distanceTo(emptyGroup, cls);
            if (distance < leastDistance || (distance == leastDistance && group < nearest)) {
                leastDistance = distance;
                nearest = group;
            }
        }
        return nearest;
    }

    private int distanceTo(int group, int cls) {
        int least = classes;
        for (int other = 0; other < classes; other++) {
            if (groupOf[other] == group) {
                least = Math.min(least, Math.abs(other - cls));
            }
        }
        return least;
    }

    private void dropFills(int groupA, int groupB) {
        filledBy[groupA] = NONE;
        filledBy[groupB] = NONE;
        for (int cls = 0; cls < classes; cls++) {
            if (filledBy[cls] == groupA || filledBy[cls] == groupB) {
                filledBy[cls] = NONE;
            }
        }
    }

    private void moveReadings(int into, int from) {
        for (int row = 0; row < ROWS; row++) {
            groupSize[row * classes + into] += groupSize[row * classes + from];
            for (int age = 0; age < ages; age++) {
                groupReadings[cell(row, into, age)] += groupReadings[cell(row, from, age)];
            }
        }
    }

    // ---- catches that are raised ----

    public boolean sample(int cls, long n) {
        if (!isClass(cls) || n < 0 || n > MOST_FISH - measuredInAll) {
            return false;
        }
        measured[cls] += n;
        measuredInAll += n;
        return true;
    }

    public long raised(long number, int age, int part) {
        if (!isAge(age) || !isZeroOrOne(part) || !canRaise(number)) {
            return NONE;
        }
        return fractionPart(number * measuredOfAge(age), measuredInAll * COMMON_BELOW, part);
    }

    public boolean sums(long number) {
        if (!canRaise(number)) {
            return false;
        }
        long together = 0;
        for (int age = 0; age < ages; age++) {
            together += number * measuredOfAge(age);
        }
        return together == number * measuredInAll * COMMON_BELOW;
    }

    private boolean canRaise(long number) {
        if (number < 0 || number > MOST_FISH || measuredInAll == 0) {
            return false;
        }
        for (int cls = 0; cls < classes; cls++) {
            if (measured[cls] > 0 && sourceOf(groupOf[cls]) == NONE) {
                return false;
            }
        }
        return true;
    }

    /** How many of the measured fish have an age, by their classes' shares; times COMMON_BELOW. */
    private long measuredOfAge(int age) {
        long sum = 0;
        for (int cls = 0; cls < classes; cls++) {
            if (measured[cls] > 0) {
                sum += measured[cls] * commonShare(groupOf[cls], age);
            }
        }
        return sum;
    }

    private long commonShare(int group, int age) {
        int source = sourceOf(group);
        if (source == NONE) {
            return 0;
        }
        int size = own(source);
        return size > 0 ? ownOfAge(source, age) * (COMMON_BELOW / size) : 0;
    }

    // ---- errors of reading, undone ----

    public boolean error(int from, int to, int twentieths) {
        if (!isAge(from) || !isAge(to) || twentieths < 0 || twentieths > TWENTY) {
            return false;
        }
        errors[from * ages + to] = twentieths;
        return true;
    }

    public int undo() {
        for (int from = 0; from < ages; from++) {
            if (errorSum(from) != TWENTY) {
                return 2;
            }
        }
        loadErrors();
        return determinant() == 0 ? 1 : 0;
    }

    public long undone(int cls2, int age, int part) {
        if (!isClass(cls2) || !isAge(age) || !isZeroOrOne(part) || undo() != 0) {
            return NONE;
        }
        loadErrors();
        long below = determinant();
        // Cramer's rule: the true age's errors give way to what was read, twenty times.
        loadErrors();
        for (int to = 0; to < ages; to++) {
            square[age * ages + to] = (long) TWENTY * ownOfAge(groupOf[cls2], to);
        }
        long above = determinant();
        return below < 0 ? fractionPart(-above, -below, part) : fractionPart(above, below, part);
    }

    private int errorSum(int from) {
        int sum = 0;
        for (int to = 0; to < ages; to++) {
            sum += errors[from * ages + to];
        }
        return sum;
    }

    private void loadErrors() {
        for (int i = 0; i < square.length && i < errors.length; i++) {
            square[i] = errors[i];
        }
    }

    /**
     * The determinant of the square, which is used up. Bareiss' way: every number on the way is itself a
     * determinant of a part, so each division is exact and nothing grows beyond a long.
     */
    private long determinant() {
        long sign = 1;
        long before = 1;
        for (int step = 0; step < ages; step++) {
            int pivot = pivotRow(step);
            if (pivot == NONE) {
                return 0;
            }
            if (pivot != step) {
                swapRows(pivot, step);
                sign = -sign;
            }
            clearBelow(step, before);
            before = square[step * ages + step];
        }
        return sign * before;
    }

    private int pivotRow(int step) {
        for (int row = step; row < ages; row++) {
            if (square[row * ages + step] != 0) {
                return row;
            }
        }
        return NONE;
    }

    private void swapRows(int rowA, int rowB) {
        for (int column = 0; column < ages; column++) {
            long held = square[rowA * ages + column];
            square[rowA * ages + column] = square[rowB * ages + column];
            square[rowB * ages + column] = held;
        }
    }

    private void clearBelow(int step, long before) {
        if (before == 0) {
            return;
        }
        long pivot = square[step * ages + step];
        for (int row = step + 1; row < ages; row++) {
            long head = square[row * ages + step];
            for (int column = step; column < ages; column++) {
                long crossed = pivot * square[row * ages + column] - head * square[step * ages + column];
                square[row * ages + column] = crossed / before;
            }
        }
    }

    // ---- two places compared ----

    public long apart(int placeA, int placeB, int part) {
        if (!isPlace(placeA) || !isPlace(placeB) || !isZeroOrOne(part)) {
            return NONE;
        }
        int sizeA = rowSize[placeA];
        int sizeB = rowSize[placeB];
        if (sizeA == 0 || sizeB == 0) {
            return NONE;
        }
        int sum = 0;
        for (int cls = 0; cls < classes; cls++) {
            for (int age = 0; age < ages; age++) {
                sum += Math.abs(readings[cell(placeA, cls, age)] * sizeB - readings[cell(placeB, cls, age)] * sizeA);
            }
        }
        return fractionPart(sum, sizeA * sizeB, part);
    }

    // ---- mean classes that never fall ----

    public long length(int age2, int part) {
        if (!isZeroOrOne(part)) {
            return NONE;
        }
        int pool = poolOf(age2);
        return pool == NONE ? NONE : fractionPart(poolSum[pool], poolSize[pool], part);
    }

    public int pooled(int age2) {
        int pool = poolOf(age2);
        return pool == NONE ? 0 : poolAges[pool];
    }

    /** The pool that an age belongs to, all pools being made anew; NONE when the age has no readings. */
    private int poolOf(int age) {
        if (!isAge(age) || readingsOfAge(age) == 0) {
            return NONE;
        }
        int pools = makePools();
        for (int pool = 0; pool < pools; pool++) {
            if (age <= poolLastAge[pool]) {
                return pool;
            }
        }
        return NONE;
    }

    private int makePools() {
        int pools = 0;
        for (int age = 0; age < ages; age++) {
            if (readingsOfAge(age) == 0) {
                continue;
            }
            openPool(pools, age);
            pools++;
            for (; pools > 1 && doesNotRise(pools - 1); pools--) {
                joinWithPoolBefore(pools - 1);
            }
        }
        return pools;
    }

    private void openPool(int pool, int age) {
        int sum = 0;
        for (int cls = 0; cls < classes; cls++) {
            sum += cls * readings[cell(chosenRow, cls, age)];
        }
        poolSum[pool] = sum;
        poolSize[pool] = readingsOfAge(age);
        poolAges[pool] = 1;
        poolLastAge[pool] = age;
    }

    // Pools of the same mean are joined too, because pooled() counts the ages with the same number.
    private boolean doesNotRise(int pool) {
        return poolSum[pool] * poolSize[pool - 1] <= poolSum[pool - 1] * poolSize[pool];
    }

    private void joinWithPoolBefore(int pool) {
        poolSum[pool - 1] += poolSum[pool];
        poolSize[pool - 1] += poolSize[pool];
        poolAges[pool - 1] += poolAges[pool];
        poolLastAge[pool - 1] = poolLastAge[pool];
    }

    private int readingsOfAge(int age) {
        int sum = 0;
        for (int cls = 0; cls < classes; cls++) {
            sum += readings[cell(chosenRow, cls, age)];
        }
        return sum;
    }

    // ---- males ----

    public boolean sex(int cls3, int males, int all) {
        if (!isClass(cls3) || males < 0 || males > all || all > MOST_LOOKED_AT) {
            return false;
        }
        maleCount[cls3] = males;
        lookedAt[cls3] = all;
        return true;
    }

    public long males(int cls3, int part) {
        if (!isClass(cls3) || !isZeroOrOne(part)) {
            return NONE;
        }
        int above = 0;
        int below = 0;
        for (int cls = 0; cls < classes; cls++) {
            if (groupOf[cls] == groupOf[cls3]) {
                above += maleCount[cls];
                below += lookedAt[cls];
            }
        }
        return below == 0 ? NONE : fractionPart(above, below, part);
    }

    // ---- what all of them use ----

    private boolean isClass(int cls) {
        return cls >= 0 && cls < classes;
    }

    private boolean isAge(int age) {
        return age >= 0 && age < ages;
    }

    private static boolean isPlace(int p) {
        return p >= 0 && p < PLACES;
    }

    private static boolean isZeroOrOne(int choice) {
        return choice == 0 || choice == 1;
    }

    private boolean isLeastOfGroup(int cls) {
        return groupOf[cls] == cls;
    }

    private int cell(int row, int cls, int age) {
        return (row * classes + cls) * ages + age;
    }

    private int sizeIn(int row, int group) {
        return groupSize[row * classes + group];
    }

    private int own(int group) {
        return sizeIn(chosenRow, group);
    }

    private int ownOfAge(int group, int age) {
        return groupReadings[cell(chosenRow, group, age)];
    }

    /** A part of a fraction in lowest terms; below is above 0. */
    private static long fractionPart(long above, long below, int part) {
        long divisor = commonDivisor(Math.abs(above), below);
        if (divisor <= 0) {
            return NONE;
        }
        return (part == 0 ? above : below) / divisor;
    }

    private static long commonDivisor(long a, long b) {
        long greater = a;
        long lesser = b;
        for (int step = 0; step < MOST_DIVISOR_STEPS && lesser != 0; step++) {
            long rest = greater % lesser;
            greater = lesser;
            lesser = rest;
        }
        return greater;
    }
}
