/**
 * Names of directories, kept in buckets by hashes; found and told in order.
 *
 * <p>A name is held as five ints with zeros behind its last byte. No name has a byte 0, so equal
 * ints are equal names, and ints that rise without a sign are names that rise, a beginning first.
 *
 * <p>Each name of a directory has one of its 48 slots, and each slot is in two chains: that of its
 * bucket, to be found, and that of its directory, to be told in order. A chain's head stands in the
 * same row as its links, behind the slots, so that the first name is linked as every other one is.
 */
public final class HashedNames {
    private static final int DIRECTORIES = 8;
    private static final int NAMES_EACH = 48;
    private static final int SLOTS = DIRECTORIES * NAMES_EACH;
    private static final int LARGEST_ID = 65535;

    private static final int WORDS = 5;
    private static final int WORD_BYTES = 4;
    private static final int NAME_BYTES = WORDS * WORD_BYTES;
    private static final int SLASH = 47;
    private static final int SIGN = 0x80000000;

    private static final int BUCKET_BITS = 4;
    private static final int BUCKETS = 1 << BUCKET_BITS;
    private static final int HASH_FACTOR = 0x9E3779B1;

    private static final int NONE = -1;

    /** The name at hand, as say() told it. */
    private final int[] hand;
    /** The name that the present call is about. */
    private final int[] key;
    /** A copy, because the latest nth() is still told when its name has gone. */
    private final int[] told;
    private int toldLength;

    private final int[] words;
    /** 0 where a slot is free. */
    private final int[] lengths;
    private final int[] ids;
    private final int[] counts;
    private final int[] bucketLinks;
    private final int[] orderLinks;

    public HashedNames() {
        hand = new int[WORDS];
        key = new int[WORDS];
        told = new int[WORDS];
        toldLength = 0;
        words = new int[SLOTS * WORDS];
        lengths = new int[SLOTS];
        ids = new int[SLOTS];
        counts = new int[DIRECTORIES];
        bucketLinks = new int[SLOTS + DIRECTORIES * BUCKETS];
        orderLinks = new int[SLOTS + DIRECTORIES];
        for (int i = 0; i < bucketLinks.length; i++) {
            bucketLinks[i] = NONE;
        }
        for (int i = 0; i < orderLinks.length; i++) {
            orderLinks[i] = NONE;
        }
    }

    public void say(int a, int b, int c, int d, int e) {
        hand[0] = a;
        hand[1] = b;
        hand[2] = c;
        hand[3] = d;
        hand[4] = e;
    }

    public int add(int directory, int n, int id)
            throws IllegalArgumentException, IllegalStateException {
        requireDirectory(directory);
        requireId(id);
        takeKey(n);
        if (isSlot(slotOfKey(directory))) {
            throw new IllegalStateException("the name is there");
        }
        int slot = freeSlot(directory);
        if (!isSlot(slot)) {
            throw new IllegalStateException("the directory is full");
        }
        keepKey(slot, n);
        ids[slot] = id;
        link(bucketLinks, bucketHead(directory), slot);
        link(orderLinks, orderHead(directory), slot);
        counts[directory]++;
        return counts[directory];
    }

    public int find(int directory, int n) throws IllegalArgumentException {
        requireDirectory(directory);
        takeKey(n);
        int slot = slotOfKey(directory);
        return isSlot(slot) ? ids[slot] : NONE;
    }

    public int remove(int directory, int n)
            throws IllegalArgumentException, IllegalStateException {
        requireDirectory(directory);
        takeKey(n);
        int slot = slotOfKey(directory);
        if (!isSlot(slot)) {
            throw new IllegalStateException("the name is not there");
        }
        unlinkKey(bucketLinks, bucketHead(directory));
        unlinkKey(orderLinks, orderHead(directory));
        lengths[slot] = 0;
        counts[directory]--;
        return ids[slot];
    }

    public int change(int directory, int n, int id)
            throws IllegalArgumentException, IllegalStateException {
        requireDirectory(directory);
        requireId(id);
        takeKey(n);
        int slot = slotOfKey(directory);
        if (!isSlot(slot)) {
            throw new IllegalStateException("the name is not there");
        }
        int former = ids[slot];
        ids[slot] = id;
        return former;
    }

    public int size(int directory) throws IllegalArgumentException {
        requireDirectory(directory);
        return counts[directory];
    }

    public int nth(int directory, int k) throws IllegalArgumentException {
        requireDirectory(directory);
        if (k < 0) {
            throw new IllegalArgumentException("k is below 0");
        }
        int slot = slotInOrder(directory, k);
        if (!isSlot(slot)) {
            toldLength = 0;
            return NONE;
        }
        for (int i = 0; i < WORDS; i++) {
            told[i] = words[slot * WORDS + i];
        }
        toldLength = lengths[slot];
        return toldLength;
    }

    public int byteAt(int i) throws IllegalArgumentException {
        if (i < 0) {
            throw new IllegalArgumentException("i is below 0");
        }
        return i < toldLength ? byteOf(told, i) : NONE;
    }

    private static void requireDirectory(int directory) {
        if (directory < 0 || directory >= DIRECTORIES) {
            throw new IllegalArgumentException("no such directory");
        }
    }

    private static void requireId(int id) {
        if (id < 1 || id > LARGEST_ID) {
            throw new IllegalArgumentException("no such id");
        }
    }

    /** Makes the first n bytes at hand the key, or refuses them when they are no name. */
    private void takeKey(int n) {
        if (n < 1 || n > NAME_BYTES) {
            throw new IllegalArgumentException("no name has such a length");
        }
        for (int i = 0; i < n; i++) {
            int b = byteOf(hand, i);
            if (b == 0 || b == SLASH) {
                throw new IllegalArgumentException("no name has such a byte");
            }
        }
        for (int i = 0; i < WORDS; i++) {
            key[i] = hand[i] & maskOfFirst(n - i * WORD_BYTES);
        }
    }

    /** The bits of an int's first bytes: none when count is below 1, all when it is above 3. */
    private static int maskOfFirst(int count) {
        // Java takes a shift by 32 as one by 0, which would keep all bits where none are wanted.
        if (count <= 0) {
            return 0;
        }
        return count >= WORD_BYTES ? -1 : -1 << (8 * (WORD_BYTES - count));
    }

    /** Byte i of a name's five ints, for i from 0 to 19. */
    private static int byteOf(int[] name, int i) {
        return (name[i / WORD_BYTES] >>> (24 - 8 * (i % WORD_BYTES))) & 255;
    }

    private static boolean isSlot(int slot) {
        return slot >= 0 && slot < SLOTS;
    }

    private static int orderHead(int directory) {
        return SLOTS + directory;
    }

    /** The head of the bucket that the key belongs to. */
    private int bucketHead(int directory) {
        int hash = 0;
        for (int i = 0; i < WORDS; i++) {
            hash = (hash ^ key[i]) * HASH_FACTOR;
        }
        // A product's highest bits hang on all bits of its factors, its lowest ones do not.
        return SLOTS + directory * BUCKETS + (hash >>> (32 - BUCKET_BITS));
    }

    /** Where the key is in its directory; NONE when it is not there. */
    private int slotOfKey(int directory) {
        int slot = bucketLinks[placeBeforeKey(bucketLinks, bucketHead(directory))];
        return isSlot(slot) && compareWithKey(slot) == 0 ? slot : NONE;
    }

    /** The head or slot of a chain whose link leads to the first name that is not below the key. */
    private int placeBeforeKey(int[] links, int head) {
        int place = head;
        for (int steps = 0; steps < NAMES_EACH; steps++) {
            int slot = links[place];
            if (!isSlot(slot) || compareWithKey(slot) >= 0) {
                break;
            }
            place = slot;
        }
        return place;
    }

    /** Below 0, 0 or above 0, as the name in the slot is below the key, the key, or above it. */
    private int compareWithKey(int slot) {
        for (int i = 0; i < WORDS; i++) {
            int kept = words[slot * WORDS + i];
            if (kept != key[i]) {
                return (kept ^ SIGN) < (key[i] ^ SIGN) ? -1 : 1;
            }
        }
        return 0;
    }

    /** NONE when the directory has 48 names. */
    private int freeSlot(int directory) {
        int first = directory * NAMES_EACH;
        for (int slot = first; slot < first + NAMES_EACH; slot++) {
            if (lengths[slot] == 0) {
                return slot;
            }
        }
        return NONE;
    }

    private void keepKey(int slot, int length) {
        for (int i = 0; i < WORDS; i++) {
            words[slot * WORDS + i] = key[i];
        }
        lengths[slot] = length;
    }

    /** Puts a slot that has the key into a chain that does not have it. */
    private void link(int[] links, int head, int slot) {
        int place = placeBeforeKey(links, head);
        links[slot] = links[place];
        links[place] = slot;
    }

    /** Takes the slot that has the key out of a chain. */
    private void unlinkKey(int[] links, int head) {
        int place = placeBeforeKey(links, head);
        int slot = links[place];
        if (isSlot(slot)) {
            links[place] = links[slot];
        }
    }

    /** The slot of the k-th name; NONE when there are not so many. */
    private int slotInOrder(int directory, int k) {
        if (k >= counts[directory]) {
            return NONE;
        }
        int slot = orderLinks[orderHead(directory)];
        for (int i = 0; i < k && isSlot(slot); i++) {
            slot = orderLinks[slot];
        }
        return slot;
    }
}
