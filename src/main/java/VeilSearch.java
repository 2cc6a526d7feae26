import java.util.NoSuchElementException;

/** A search of documents where not everybody may see everything; ../shared/DOC.md says what it promises. */
public final class VeilSearch {
    private static final int USERS = 8;
    private static final int TOKENS = 16;
    private static final int GROUPS = TOKENS - USERS;
    private static final int RANKS = 4;
    private static final int FIELDS = 3;
    private static final int TERMS = 8;
    private static final int TOP_CODE = 255;
    private static final int NO_PARENT = -1;
    private static final int MOST_IDS = 40;
    private static final int MOST_SEGMENTS = 6;
    private static final int BLOCK_SIZE = 4;
    private static final int MOST_BLOCKS = MOST_IDS / BLOCK_SIZE;
    private static final int MOST_CLAUSES = 6;
    private static final int MOST_HITS = 8;
    private static final int MOST_FILTERS = 5;
    private static final int SORTS = 3;
    private static final int SCORES = 0;
    private static final int MUST = 1;
    private static final int NOT = 2;
    private static final int TOKENS_NOW = 10;
    private static final int TOKENS_SEEN = 20;

    private final Documents documents;
    private final Filters filters;
    private final Query query;
    private final Hits hits;
    private final View now;
    private final View seen;
    private long buffer;
    private int segmentsMade;
    private int blocksLooked;
    private int documentsFound;

    public VeilSearch() {
        documents = new Documents();
        filters = new Filters();
        query = new Query();
        hits = new Hits();
        now = new View();
        seen = new View();
        buffer = 0;
        segmentsMade = 0;
        blocksLooked = 0;
        documentsFound = 0;
    }

    public boolean member(int m, int g, boolean on) throws IllegalArgumentException {
        if (!isBelow(m, TOKENS) || !isBelow(g, TOKENS) || g < USERS || m == g) {
            throw new IllegalArgumentException();
        }
        return now.rights.join(m, g, on);
    }

    public int level(int what, int i, int n) throws IllegalArgumentException {
        if (!isBelow(what, 2) || !isBelow(i, what == 0 ? FIELDS : USERS) || !isBelow(n, RANKS)) {
            throw new IllegalArgumentException();
        }
        int[] ranks = what == 0 ? now.rights.levels : now.rights.clearances;
        int before = ranks[i];
        ranks[i] = n;
        return before;
    }

    public int weigh(int field, int term, double w) throws IllegalArgumentException {
        if (!isBelow(field, FIELDS) || !isBelow(term, TERMS) || !isWeight(w)) {
            throw new IllegalArgumentException();
        }
        int code = codeOf(w);
        documents.codes[Documents.codePlace(documents.ids, field, term)] = code;
        return code;
    }

    public int put(int field, int value) throws IllegalArgumentException {
        if (!isBelow(field, FIELDS)) {
            throw new IllegalArgumentException();
        }
        int place = Documents.valuePlace(documents.ids, field);
        int before = documents.values[place];
        documents.values[place] = value;
        return before;
    }

    public boolean rule(int token, boolean allows) throws IllegalArgumentException {
        if (!isBelow(token, TOKENS)) {
            throw new IllegalArgumentException();
        }
        int[] rules = allows ? documents.allowed : documents.denied;
        int before = rules[documents.ids];
        rules[documents.ids] = before | 1 << token;
        return rules[documents.ids] != before;
    }

    public int add(int parent) throws IllegalArgumentException, IllegalStateException {
        if (parent != NO_PARENT && !isBelow(parent, documents.ids)) {
            throw new IllegalArgumentException();
        }
        if (documents.ids >= MOST_IDS) {
            throw new IllegalStateException();
        }
        int id = documents.finishDraft(parent);
        buffer |= 1L << id;
        return id;
    }

    public void remove(int id) throws NoSuchElementException {
        if (!isBelow(id, documents.ids) || holds(now.removed, id)) {
            throw new NoSuchElementException();
        }
        now.removed |= 1L << id;
        buffer &= ~(1L << id);
    }

    public int flush() throws IllegalStateException {
        if (now.segments.size >= MOST_SEGMENTS) {
            throw new IllegalStateException();
        }
        int size = Long.bitCount(buffer);
        appendSegment(buffer);
        buffer = 0;
        return size;
    }

    public int merge() {
        long all = now.segments.allIds();
        long gone = all & now.removed;
        if (now.segments.size < 2 && gone == 0) {
            return 0;
        }
        now.segments.size = 0;
        appendSegment(all & ~gone);
        return Long.bitCount(gone);
    }

    public int refresh() {
        boolean sameRights = now.rights.sameAs(seen.rights);
        seen.takeOver(now);
        if (sameRights) {
            filters.dropAllBut(seen.segments);
        } else {
            filters.kept = 0;
        }
        return Long.bitCount(seen.livingIds());
    }

    public int clause(int sort, int term, int field, double w) throws IllegalArgumentException, IllegalStateException {
        if (!isBelow(sort, SORTS) || !isBelow(term, TERMS) || !isBelow(field, FIELDS) || !isWeight(w)) {
            throw new IllegalArgumentException();
        }
        if (query.size >= MOST_CLAUSES) {
            throw new IllegalStateException();
        }
        query.insert(sort, term, field, (float) w);
        return query.size;
    }

    public int clear() {
        int before = query.size;
        query.size = 0;
        return before;
    }

    public int search(int u, int k) throws IllegalArgumentException {
        if (!isBelow(u, USERS) || k < 1 || k > MOST_HITS) {
            throw new IllegalArgumentException();
        }
        blocksLooked = 0;
        documentsFound = 0;
        hits.restart(k);
        query.openFor(u, seen.rights);
        long living = seen.livingIds();
        for (int i = 0; i < seen.segments.size; i++) {
            long readable = filterOf(seen.segments.numbers[i], seen.segments.ids[i], u);
            passThrough(seen.segments.ids[i], readable & living);
        }
        return hits.size;
    }

    public int hit(int i) throws IndexOutOfBoundsException {
        if (!isBelow(i, hits.size)) {
            throw new IndexOutOfBoundsException();
        }
        return hits.ids[i];
    }

    public double score(int i) throws IndexOutOfBoundsException {
        if (!isBelow(i, hits.size)) {
            throw new IndexOutOfBoundsException();
        }
        return hits.scores[i];
    }

    public int value(int u, int id, int field) throws IllegalArgumentException, NoSuchElementException, UnsupportedOperationException {
        if (!isBelow(u, USERS) || !isBelow(field, FIELDS)) {
            throw new IllegalArgumentException();
        }
        if (!isBelow(id, MOST_IDS) || !holds(seen.livingIds(), id) || !documents.mayRead(id, seen.rights.tokensOf(u))) {
            throw new NoSuchElementException();
        }
        if (!seen.rights.isOpen(field, u)) {
            throw new UnsupportedOperationException();
        }
        return documents.values[Documents.valuePlace(id, field)];
    }

    public int count(int what) throws IllegalArgumentException {
        if (what >= TOKENS_NOW && what < TOKENS_NOW + USERS) {
            return now.rights.tokensOf(what - TOKENS_NOW);
        }
        if (what >= TOKENS_SEEN && what < TOKENS_SEEN + USERS) {
            return seen.rights.tokensOf(what - TOKENS_SEEN);
        }
        switch (what) {
            case 0:
                return documents.ids;
            case 1:
                return Long.bitCount(buffer);
            case 2:
                return now.segments.size;
            case 3:
                return seen.segments.size;
            case 4:
                return blocksLooked;
            case 5:
                return documentsFound;
            case 6:
                return filters.made;
            case 7:
                return filters.reused;
            case 8:
                return filters.kept;
            default:
                throw new IllegalArgumentException();
        }
    }

    private static boolean isBelow(int n, int end) {
        return n >= 0 && n < end;
    }

    /** Asked for what it must be, not for what it must not, so that NaN is no weight either. */
    private static boolean isWeight(double w) {
        return w == 0 || w >= 1e-30 && w <= 1000;
    }

    private static int codeOf(double w) {
        int code = (int) ((float) w * 16f + 0.5f);
        return code > TOP_CODE ? TOP_CODE : code;
    }

    private static boolean holds(long ids, int id) {
        return (ids >>> id & 1L) != 0;
    }

    private static int lowestId(long ids) {
        return Long.bitCount((ids & -ids) - 1);
    }

    private void appendSegment(long ids) {
        if (ids != 0) {
            now.segments.append(segmentsMade, ids);
            segmentsMade++;
        }
    }

    private long filterOf(int segment, long ids, int user) {
        int place = filters.placeOf(segment, user);
        if (place >= 0) {
            return filters.reuse(place);
        }
        long readable = documents.readableOf(ids, seen.rights.tokensOf(user));
        filters.keepNew(segment, user, readable);
        return readable;
    }

    private void passThrough(long segment, long candidates) {
        long rest = segment;
        for (int i = 0; i < MOST_BLOCKS && rest != 0; i++) {
            long block = firstBlock(rest);
            rest &= ~block;
            if (hits.size < hits.most || query.scoreOf(block, documents) > hits.lastScore()) {
                lookAt(block & candidates);
            }
        }
    }

    private static long firstBlock(long ids) {
        long rest = ids;
        for (int i = 0; i < BLOCK_SIZE; i++) {
            rest &= rest - 1;
        }
        return ids & ~rest;
    }

    private void lookAt(long candidates) {
        blocksLooked++;
        long rest = candidates;
        for (int i = 0; i < BLOCK_SIZE && rest != 0; i++) {
            int id = lowestId(rest);
            rest &= rest - 1;
            if (query.finds(id, documents)) {
                documentsFound++;
                hits.take(id, query.scoreOf(1L << id, documents));
            }
        }
    }

    /** All documents by their IDs. The row behind them is THE DRAFT: add just counts it in, and the next row is still empty. */
    private static final class Documents {
        private final int[] codes = new int[(MOST_IDS + 1) * FIELDS * TERMS];
        private final int[] values = new int[(MOST_IDS + 1) * FIELDS];
        private final int[] allowed = new int[MOST_IDS + 1];
        private final int[] denied = new int[MOST_IDS + 1];
        private int ids = 0;

        static int valuePlace(int id, int field) {
            return id * FIELDS + field;
        }

        static int codePlace(int id, int field, int term) {
            return valuePlace(id, field) * TERMS + term;
        }

        /** Rules stay for good once a document is added, so what comes from its parents is settled here, once. */
        int finishDraft(int parent) {
            int id = ids;
            if (parent != NO_PARENT) {
                denied[id] |= denied[parent];
                if (allowed[id] == 0) {
                    allowed[id] = allowed[parent];
                }
            }
            ids++;
            return id;
        }

        boolean mayRead(int id, int tokens) {
            return (denied[id] & tokens) == 0 && (allowed[id] & tokens) != 0;
        }

        long readableOf(long among, int tokens) {
            long readable = 0;
            for (int id = 0; id < ids; id++) {
                if (holds(among, id) && mayRead(id, tokens)) {
                    readable |= 1L << id;
                }
            }
            return readable;
        }

        int greatestCode(long block, int field, int term) {
            int greatest = 0;
            long rest = block;
            for (int i = 0; i < BLOCK_SIZE && rest != 0; i++) {
                greatest = Math.max(greatest, codes[codePlace(lowestId(rest), field, term)]);
                rest &= rest - 1;
            }
            return greatest;
        }
    }

    /** Who is a member of what, and who may see which fields. */
    private static final class Rights {
        private final int[] groupsOf = new int[TOKENS];
        private final int[] levels = new int[FIELDS];
        private final int[] clearances = new int[USERS];

        boolean join(int token, int group, boolean on) {
            int before = groupsOf[token];
            groupsOf[token] = on ? before | 1 << group : before & ~(1 << group);
            return groupsOf[token] != before;
        }

        /** A round that brings no new group is the last that matters, so as many rounds as groups are enough. */
        int tokensOf(int user) {
            int tokens = 1 << user;
            for (int round = 0; round < GROUPS; round++) {
                for (int token = 0; token < TOKENS; token++) {
                    if ((tokens >>> token & 1) != 0) {
                        tokens |= groupsOf[token];
                    }
                }
            }
            return tokens;
        }

        boolean isOpen(int field, int user) {
            return clearances[user] >= levels[field];
        }

        boolean sameAs(Rights other) {
            return sameRow(groupsOf, other.groupsOf)
                && sameRow(levels, other.levels)
                && sameRow(clearances, other.clearances);
        }

        private static boolean sameRow(int[] a, int[] b) {
            for (int i = 0; i < a.length && i < b.length; i++) {
                if (a[i] != b[i]) {
                    return false;
                }
            }
            return true;
        }

        void takeOver(Rights other) {
            System.arraycopy(other.groupsOf, 0, groupsOf, 0, TOKENS);
            System.arraycopy(other.levels, 0, levels, 0, FIELDS);
            System.arraycopy(other.clearances, 0, clearances, 0, USERS);
        }
    }

    /** Segments as they came: each has a number that no other ever gets, for the filters, and its IDs as bits. */
    private static final class Segments {
        private final int[] numbers = new int[MOST_SEGMENTS];
        private final long[] ids = new long[MOST_SEGMENTS];
        private int size = 0;

        void append(int number, long documentIds) {
            numbers[size] = number;
            ids[size] = documentIds;
            size++;
        }

        long allIds() {
            long all = 0;
            for (int i = 0; i < size; i++) {
                all |= ids[i];
            }
            return all;
        }

        boolean hasNumber(int number) {
            for (int i = 0; i < size; i++) {
                if (numbers[i] == number) {
                    return true;
                }
            }
            return false;
        }

        void takeOver(Segments other) {
            System.arraycopy(other.numbers, 0, numbers, 0, MOST_SEGMENTS);
            System.arraycopy(other.ids, 0, ids, 0, MOST_SEGMENTS);
            size = other.size;
        }
    }

    /** All that refresh takes over: there is one as it is now, and one as it is searched (THE SNAPSHOT). */
    private static final class View {
        private final Rights rights = new Rights();
        private final Segments segments = new Segments();
        private long removed = 0;

        long livingIds() {
            return segments.allIds() & ~removed;
        }

        void takeOver(View other) {
            rights.takeOver(other.rights);
            segments.takeOver(other.segments);
            removed = other.removed;
        }
    }

    /** Clauses in the order in which scores are added up. */
    private static final class Query {
        private final int[] sorts = new int[MOST_CLAUSES];
        private final int[] terms = new int[MOST_CLAUSES];
        private final int[] fields = new int[MOST_CLAUSES];
        private final float[] weights = new float[MOST_CLAUSES];
        private final boolean[] open = new boolean[MOST_CLAUSES];
        private boolean veiledMust = false;
        private int size = 0;

        void insert(int sort, int term, int field, float weight) {
            int place = size;
            while (place > 0 && comesLater(place - 1, term, field)) {
                move(place - 1, place);
                place--;
            }
            sorts[place] = sort;
            terms[place] = term;
            fields[place] = field;
            weights[place] = weight;
            size++;
        }

        private boolean comesLater(int place, int term, int field) {
            return terms[place] > term || terms[place] == term && fields[place] > field;
        }

        private void move(int from, int to) {
            sorts[to] = sorts[from];
            terms[to] = terms[from];
            fields[to] = fields[from];
            weights[to] = weights[from];
        }

        void openFor(int user, Rights rights) {
            veiledMust = false;
            for (int i = 0; i < size; i++) {
                open[i] = rights.isOpen(fields[i], user);
                if (!open[i] && sorts[i] == MUST) {
                    veiledMust = true;
                }
            }
        }

        boolean finds(int id, Documents documents) {
            boolean scored = false;
            for (int i = 0; i < size; i++) {
                boolean has = documents.codes[Documents.codePlace(id, fields[i], terms[i])] > 0;
                if (open[i] && (sorts[i] == MUST && !has || sorts[i] == NOT && has)) {
                    return false;
                }
                if (open[i] && sorts[i] == SCORES && has) {
                    scored = true;
                }
            }
            return scored && !veiledMust;
        }

        /** A document's score is the bound of a block that has it alone: one way of adding up serves both. */
        float scoreOf(long block, Documents documents) {
            float sum = 0f;
            for (int i = 0; i < size; i++) {
                if (open[i] && sorts[i] == SCORES) {
                    float worth = documents.greatestCode(block, fields[i], terms[i]) / 16f;
                    sum = sum + weights[i] * worth;
                }
            }
            return sum;
        }
    }

    /** The best of the latest search, by falling scores, then rising IDs. */
    private static final class Hits {
        private final int[] ids = new int[MOST_HITS];
        private final float[] scores = new float[MOST_HITS];
        private int size = 0;
        private int most = 0;

        void restart(int k) {
            most = k;
            size = 0;
        }

        float lastScore() {
            return size > 0 ? scores[size - 1] : 0f;
        }

        /** IDs rise along a search, so one with the same score as others belongs behind them. */
        void take(int id, float found) {
            if (size == most && found <= lastScore()) {
                return;
            }
            int place = size < most ? size : most - 1;
            while (place > 0 && scores[place - 1] < found) {
                ids[place] = ids[place - 1];
                scores[place] = scores[place - 1];
                place--;
            }
            ids[place] = id;
            scores[place] = found;
            size = Math.min(size + 1, most);
        }
    }

    /** Filters that are kept, the one that was used the longest ago first. */
    private static final class Filters {
        private final int[] segments = new int[MOST_FILTERS];
        private final int[] users = new int[MOST_FILTERS];
        private final long[] readable = new long[MOST_FILTERS];
        private int kept = 0;
        private int made = 0;
        private int reused = 0;

        int placeOf(int segment, int user) {
            for (int i = 0; i < kept; i++) {
                if (segments[i] == segment && users[i] == user) {
                    return i;
                }
            }
            return -1;
        }

        long reuse(int place) {
            int segment = segments[place];
            int user = users[place];
            long ids = readable[place];
            drop(place);
            append(segment, user, ids);
            reused++;
            return ids;
        }

        void keepNew(int segment, int user, long ids) {
            if (kept == MOST_FILTERS) {
                drop(0);
            }
            append(segment, user, ids);
            made++;
        }

        void dropAllBut(Segments wanted) {
            for (int i = kept - 1; i >= 0; i--) {
                if (!wanted.hasNumber(segments[i])) {
                    drop(i);
                }
            }
        }

        private void append(int segment, int user, long ids) {
            segments[kept] = segment;
            users[kept] = user;
            readable[kept] = ids;
            kept++;
        }

        private void drop(int place) {
            for (int i = place; i < kept - 1; i++) {
                segments[i] = segments[i + 1];
                users[i] = users[i + 1];
                readable[i] = readable[i + 1];
            }
            kept--;
        }
    }
}
