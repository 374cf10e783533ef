import java.util.Arrays;
import java.util.NoSuchElementException;

/**
 * A heap whose objects are found by what leads to them, and pushed together when there's no room:
 * references are places, that change then.
 */
public final class HeapPress {
    private static final int CELLS = 300;
    private static final int REGISTERS = 16;
    private static final int MOST_CONTENTS = 40;
    private static final int WHATS = 3;

    private static final int NULL = -1;

    private static final int LINKS = 1;
    private static final int NUMBERS = 2;
    private static final int WEAK = 3;

    // A header tells kind and n in one cell, because an object has just one cell beside its contents.
    private static final int KIND_BITS = 2;
    private static final int KIND_MASK = 3;

    // The objects in the order of their places, without a gap: a header, then n contents each.
    private final long[] cells = new long[CELLS];
    private final int[] registers = new int[REGISTERS];
    private int taken = 0;
    private int objects = 0;
    private int collections = 0;

    // Used while collecting alone; they stand here so that no call makes rows of its own.
    private final int[] reached = new int[CELLS];
    private int reachedCount = 0;
    private final int[] newPlaces = new int[CELLS];

    public HeapPress() {
        Arrays.fill(registers, NULL);
    }

    public int make(int r, boolean links, int n) throws IllegalArgumentException, IllegalStateException {
        checkRegister(r);
        checkBelow(n, MOST_CONTENTS + 1);
        int place = takeCells(links ? LINKS : NUMBERS, n);
        long first = links ? NULL : 0;
        // The cells may still hold what an object before this one left there.
        for (int i = 0; i < n; i++) {
            cells[place + 1 + i] = first;
        }
        registers[r] = place;
        return place;
    }

    public int weak(int r, int s)
            throws IllegalArgumentException, IllegalStateException, NoSuchElementException {
        checkRegister(r);
        checkRegister(s);
        checkNotNull(registers[s]);
        int place = takeCells(WEAK, 1);
        // Register s is read only now, because taking cells may have moved its object.
        cells[place + 1] = registers[s];
        registers[r] = place;
        return place;
    }

    public void copy(int r, int s) throws IllegalArgumentException {
        checkRegister(r);
        checkRegister(s);
        registers[r] = registers[s];
    }

    public void drop(int r) throws IllegalArgumentException {
        checkRegister(r);
        registers[r] = NULL;
    }

    public void link(int r, int i, int s) throws IllegalArgumentException, NoSuchElementException {
        checkRegister(r);
        checkRegister(s);
        int place = registers[r];
        checkNotNull(place);
        checkKind(kindAt(place) == LINKS);
        checkBelow(i, lengthAt(place));
        cells[place + 1 + i] = registers[s];
    }

    public void follow(int r, int s, int i) throws IllegalArgumentException, NoSuchElementException {
        checkRegister(r);
        checkRegister(s);
        int place = registers[s];
        checkNotNull(place);
        checkKind(kindAt(place) != NUMBERS);
        checkBelow(i, lengthAt(place));
        registers[r] = (int) cells[place + 1 + i];
    }

    public void put(int r, int i, long v) throws IllegalArgumentException, NoSuchElementException {
        cells[numberCell(r, i)] = v;
    }

    public long get(int r, int i) throws IllegalArgumentException, NoSuchElementException {
        return cells[numberCell(r, i)];
    }

    public int collect() {
        int before = objects;
        pressTogether();
        return before - objects;
    }

    public int state(int r, int what) throws IllegalArgumentException {
        checkRegister(r);
        checkBelow(what, WHATS);
        int place = registers[r];
        if (what == 0) {
            return place == NULL ? 0 : kindAt(place);
        }
        if (place == NULL) {
            return -1;
        }
        return what == 1 ? place : lengthAt(place);
    }

    public int count(int what) {
        switch (what) {
            case 0:
                return taken;
            case 1:
                return objects;
            case 2:
                return collections;
            default:
                return -1;
        }
    }

    private static void checkRegister(int r) {
        checkBelow(r, REGISTERS);
    }

    private static void checkBelow(int number, int bound) {
        if (number < 0 || number >= bound) {
            throw new IllegalArgumentException("a number out of range");
        }
    }

    private static void checkKind(boolean fits) {
        if (!fits) {
            throw new IllegalArgumentException("an object of another kind");
        }
    }

    private static void checkNotNull(int place) {
        if (place == NULL) {
            throw new NoSuchElementException("null, where there must be an object");
        }
    }

    private int numberCell(int r, int i) {
        checkRegister(r);
        int place = registers[r];
        checkNotNull(place);
        checkKind(kindAt(place) == NUMBERS);
        checkBelow(i, lengthAt(place));
        return place + 1 + i;
    }

    private int kindAt(int place) {
        return (int) cells[place] & KIND_MASK;
    }

    private int lengthAt(int place) {
        return (int) cells[place] >> KIND_BITS;
    }

    private int sizeAt(int place) {
        return 1 + lengthAt(place);
    }

    /** Answers the place of a new object, whose contents are still to be written. */
    private int takeCells(int kind, int n) {
        if (!hasRoom(n)) {
            pressTogether();
        }
        if (!hasRoom(n)) {
            throw new IllegalStateException("full");
        }
        int place = taken;
        cells[place] = (n << KIND_BITS) | kind;
        taken += 1 + n;
        objects++;
        return place;
    }

    private boolean hasRoom(int n) {
        return taken + 1 + n <= CELLS;
    }

    private void pressTogether() {
        collections++;
        findReached();
        int left = planNewPlaces();
        redirectRegisters();
        redirectContents();
        moveDown();
        taken = left;
        objects = reachedCount;
    }

    private void findReached() {
        Arrays.fill(newPlaces, NULL);
        reachedCount = 0;
        for (int r = 0; r < REGISTERS; r++) {
            noteReached(registers[r]);
        }
        // The row grows while it is read; no object comes into it twice, so CELLS bounds it.
        for (int k = 0; k < CELLS && k < reachedCount; k++) {
            if (kindAt(reached[k]) == LINKS) {
                noteContents(reached[k]);
            }
        }
    }

    private void noteContents(int place) {
        int end = place + sizeAt(place);
        for (int c = place + 1; c < end; c++) {
            noteReached((int) cells[c]);
        }
    }

    private void noteReached(int place) {
        if (place != NULL && newPlaces[place] == NULL) {
            // Any place will do to mark it: the right one is known when all marks are set.
            newPlaces[place] = place;
            reached[reachedCount] = place;
            reachedCount++;
        }
    }

    /** Answers how many cells the objects that stay will take. */
    private int planNewPlaces() {
        int place = 0;
        int next = 0;
        for (int k = 0; k < objects; k++) {
            int size = sizeAt(place);
            if (newPlaces[place] != NULL) {
                newPlaces[place] = next;
                next += size;
            }
            place += size;
        }
        return next;
    }

    private void redirectRegisters() {
        for (int r = 0; r < REGISTERS; r++) {
            registers[r] = newPlaceOf(registers[r]);
        }
    }

    private void redirectContents() {
        for (int k = 0; k < reachedCount; k++) {
            int place = reached[k];
            if (kindAt(place) != NUMBERS) {
                redirectContentsAt(place);
            }
        }
    }

    private void redirectContentsAt(int place) {
        int end = place + sizeAt(place);
        for (int c = place + 1; c < end; c++) {
            cells[c] = newPlaceOf((int) cells[c]);
        }
    }

    // What was not reached has the new place NULL, and that is what a weak reference to it becomes.
    private int newPlaceOf(int place) {
        return place == NULL ? NULL : newPlaces[place];
    }

    private void moveDown() {
        int place = 0;
        for (int k = 0; k < objects; k++) {
            // The size is read first, because the move may write over the header.
            int size = sizeAt(place);
            if (newPlaces[place] != NULL) {
                System.arraycopy(cells, place, cells, newPlaces[place], size);
            }
            place += size;
        }
    }
}
