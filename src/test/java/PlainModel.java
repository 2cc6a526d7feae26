import java.util.ArrayList;
import java.util.Arrays;
import java.util.Comparator;
import java.util.HashSet;
import java.util.List;
import java.util.Map;
import java.util.NoSuchElementException;
import java.util.Set;
import java.util.TreeMap;
import java.util.TreeSet;

/** The document's words with sets, maps and lists, as plainly as it goes; made to be compared with, never to be quick. */
final class PlainModel {
    private static final class Doc {
        int id = -1;
        Doc parent = null;
        final int[] values = new int[3];
        final Map<String, Integer> codes = new TreeMap<>();
        final Set<Integer> allows = new TreeSet<>();
        final Set<Integer> denies = new TreeSet<>();

        int code(int field, int term) {
            return codes.getOrDefault(field + "/" + term, 0);
        }
    }

    private static final class Clause {
        int sort;
        int term;
        int field;
        float weight;
    }

    private static final class Filter {
        List<Doc> segment;
        int user;
        final Set<Doc> readable = new HashSet<>();
    }

    private static final class Hit {
        Doc doc;
        float score;
    }

    private Doc draft = new Doc();
    private final List<Doc> docs = new ArrayList<>();
    private List<Doc> buffer = new ArrayList<>();
    private List<List<Doc>> segments = new ArrayList<>();
    private final Set<Doc> removed = new HashSet<>();
    private final Set<List<Integer>> members = new HashSet<>();
    private final int[] levels = new int[3];
    private final int[] clearances = new int[8];

    private List<List<Doc>> seenSegments = new ArrayList<>();
    private Set<Doc> seenRemoved = new HashSet<>();
    private Set<List<Integer>> seenMembers = new HashSet<>();
    private int[] seenLevels = new int[3];
    private int[] seenClearances = new int[8];

    private final List<Clause> clauses = new ArrayList<>();
    private List<Hit> hits = new ArrayList<>();
    private int looked = 0;
    private int found = 0;
    private int made = 0;
    private int used = 0;
    private final List<Filter> filters = new ArrayList<>();

    private static void need(boolean fine) {
        if (!fine) {
            throw new IllegalArgumentException();
        }
    }

    private static void needWeight(double w) {
        need(!(w != w) && !(w < 0) && !(w > 1000) && !(w > 0 && w < 1e-30));
    }

    boolean member(int m, int g, boolean on) {
        need(m >= 0 && m <= 15 && g >= 8 && g <= 15 && m != g);
        return on ? members.add(List.of(m, g)) : members.remove(List.of(m, g));
    }

    int level(int what, int i, int n) {
        need((what == 0 || what == 1) && i >= 0 && i <= (what == 0 ? 2 : 7) && n >= 0 && n <= 3);
        int[] row = what == 0 ? levels : clearances;
        int was = row[i];
        row[i] = n;
        return was;
    }

    int weigh(int field, int term, double w) {
        need(field >= 0 && field <= 2 && term >= 0 && term <= 7);
        needWeight(w);
        float scaled = (float) w * 16;
        scaled = scaled + 0.5f;
        draft.codes.put(field + "/" + term, Math.min(255, (int) scaled));
        return draft.code(field, term);
    }

    int put(int field, int value) {
        need(field >= 0 && field <= 2);
        int was = draft.values[field];
        draft.values[field] = value;
        return was;
    }

    boolean rule(int token, boolean allows) {
        need(token >= 0 && token <= 15);
        return allows ? draft.allows.add(token) : draft.denies.add(token);
    }

    int add(int parent) {
        need(parent >= -1 && parent < docs.size());
        if (docs.size() == 40) {
            throw new IllegalStateException();
        }
        draft.parent = parent == -1 ? null : docs.get(parent);
        draft.id = docs.size();
        docs.add(draft);
        buffer.add(draft);
        draft = new Doc();
        return docs.size() - 1;
    }

    void remove(int id) {
        if (id < 0 || id >= docs.size() || !removed.add(docs.get(id))) {
            throw new NoSuchElementException();
        }
        buffer.remove(docs.get(id));
    }

    int flush() {
        if (segments.size() == 6) {
            throw new IllegalStateException();
        }
        int size = buffer.size();
        if (size > 0) {
            segments.add(buffer);
            buffer = new ArrayList<>();
        }
        return size;
    }

    int merge() {
        List<Doc> all = new ArrayList<>();
        for (List<Doc> segment : segments) {
            all.addAll(segment);
        }
        List<Doc> left = new ArrayList<>(all);
        left.removeAll(removed);
        left.sort(Comparator.comparingInt(doc -> doc.id));
        if (segments.size() >= 2 || left.size() < all.size()) {
            segments = new ArrayList<>();
            if (!left.isEmpty()) {
                segments.add(left);
            }
        }
        return all.size() - left.size();
    }

    int refresh() {
        boolean same = members.equals(seenMembers) && Arrays.equals(levels, seenLevels) && Arrays.equals(clearances, seenClearances);
        seenSegments = new ArrayList<>(segments);
        seenRemoved = new HashSet<>(removed);
        seenMembers = new HashSet<>(members);
        seenLevels = levels.clone();
        seenClearances = clearances.clone();
        filters.removeIf(filter -> !same || seenSegments.stream().noneMatch(segment -> segment == filter.segment));
        int living = 0;
        for (List<Doc> segment : seenSegments) {
            for (Doc doc : segment) {
                living += seenRemoved.contains(doc) ? 0 : 1;
            }
        }
        return living;
    }

    int clause(int sort, int term, int field, double w) {
        need(sort >= 0 && sort <= 2 && term >= 0 && term <= 7 && field >= 0 && field <= 2);
        needWeight(w);
        if (clauses.size() == 6) {
            throw new IllegalStateException();
        }
        Clause clause = new Clause();
        clause.sort = sort;
        clause.term = term;
        clause.field = field;
        clause.weight = (float) w;
        clauses.add(clause);
        return clauses.size();
    }

    int clear() {
        int had = clauses.size();
        clauses.clear();
        return had;
    }

    private static Set<Integer> tokens(int u, Set<List<Integer>> members) {
        Set<Integer> tokens = new TreeSet<>(Set.of(u));
        boolean grown = true;
        while (grown) {
            grown = false;
            for (List<Integer> pair : members) {
                if (tokens.contains(pair.get(0))) {
                    grown |= tokens.add(pair.get(1));
                }
            }
        }
        return tokens;
    }

    private static boolean meet(Set<Integer> a, Set<Integer> b) {
        Set<Integer> both = new TreeSet<>(a);
        both.retainAll(b);
        return !both.isEmpty();
    }

    private boolean mayRead(Doc doc, int u) {
        Set<Integer> tokens = tokens(u, seenMembers);
        for (Doc d = doc; d != null; d = d.parent) {
            if (meet(d.denies, tokens)) {
                return false;
            }
        }
        for (Doc d = doc; d != null; d = d.parent) {
            if (!d.allows.isEmpty()) {
                return meet(d.allows, tokens);
            }
        }
        return false;
    }

    private Set<Doc> filter(List<Doc> segment, int u) {
        for (Filter filter : filters) {
            if (filter.segment == segment && filter.user == u) {
                used++;
                filters.remove(filter);
                filters.add(filter);
                return filter.readable;
            }
        }
        made++;
        Filter filter = new Filter();
        filter.segment = segment;
        filter.user = u;
        segment.stream().filter(doc -> mayRead(doc, u)).forEach(filter.readable::add);
        filters.add(filter);
        if (filters.size() > 5) {
            filters.remove(0);
        }
        return filter.readable;
    }

    private boolean isOpen(int field, int u) {
        return !(seenClearances[u] < seenLevels[field]);
    }

    private boolean isFound(Doc doc, int u) {
        boolean some = false;
        for (Clause clause : clauses) {
            int code = doc.code(clause.field, clause.term);
            if (!isOpen(clause.field, u)) {
                if (clause.sort == 1) {
                    return false;
                }
            } else if (clause.sort == 1 && code == 0 || clause.sort == 2 && code != 0) {
                return false;
            } else if (clause.sort == 0 && code != 0) {
                some = true;
            }
        }
        return some;
    }

    private float scoreOf(Doc doc, int u) {
        List<Clause> sorted = new ArrayList<>(clauses);
        sorted.sort(Comparator.<Clause>comparingInt(clause -> clause.term).thenComparingInt(clause -> clause.field));
        float score = 0;
        for (Clause clause : sorted) {
            int c = doc.code(clause.field, clause.term);
            if (clause.sort == 0 && c > 0 && isOpen(clause.field, u)) {
                float part = clause.weight * ((float) c / 16);
                score = score + part;
            }
        }
        return score;
    }

    private float bound(List<Doc> block, int u) {
        Doc greatest = new Doc();
        for (Doc doc : block) {
            doc.codes.forEach((place, code) -> greatest.codes.merge(place, code, Math::max));
        }
        return scoreOf(greatest, u);
    }

    int search(int u, int k) {
        need(u >= 0 && u <= 7 && k >= 1 && k <= 8);
        hits = new ArrayList<>();
        looked = 0;
        found = 0;
        for (List<Doc> segment : seenSegments) {
            Set<Doc> filter = filter(segment, u);
            for (int from = 0; from < segment.size(); from += 4) {
                List<Doc> block = segment.subList(from, Math.min(from + 4, segment.size()));
                if (hits.size() < k || bound(block, u) > hits.get(k - 1).score) {
                    lookAt(block, filter, u, k);
                }
            }
        }
        return hits.size();
    }

    int blocks() {
        int blocks = 0;
        for (List<Doc> segment : seenSegments) {
            blocks += (segment.size() + 3) / 4;
        }
        return blocks;
    }

    private void lookAt(List<Doc> block, Set<Doc> filter, int u, int k) {
        looked++;
        for (Doc doc : block) {
            if (filter.contains(doc) && !seenRemoved.contains(doc) && isFound(doc, u)) {
                found++;
                Hit hit = new Hit();
                hit.doc = doc;
                hit.score = scoreOf(doc, u);
                hits.add(hit);
                hits.sort((a, b) -> a.score != b.score ? Float.compare(b.score, a.score) : a.doc.id - b.doc.id);
                if (hits.size() > k) {
                    hits.remove(k);
                }
            }
        }
    }

    /** The best k of all that are found, without blocks: passing over blocks must not be seen in them. */
    String hitsWithoutBlocks(int u, int k) {
        TreeMap<Float, String> byScore = new TreeMap<>(Comparator.reverseOrder());
        for (List<Doc> segment : seenSegments) {
            for (Doc doc : segment) {
                if (mayRead(doc, u) && !seenRemoved.contains(doc) && isFound(doc, u)) {
                    byScore.merge(scoreOf(doc, u), doc.id + " ", String::concat);
                }
            }
        }
        String[] ids = String.join("", byScore.values()).split(" ");
        return String.join(" ", Arrays.copyOf(ids, Math.min(k, ids.length)));
    }

    int hit(int i) {
        if (i < 0 || i >= hits.size()) {
            throw new IndexOutOfBoundsException();
        }
        return hits.get(i).doc.id;
    }

    double score(int i) {
        if (i < 0 || i >= hits.size()) {
            throw new IndexOutOfBoundsException();
        }
        return hits.get(i).score;
    }

    int value(int u, int id, int field) {
        need(u >= 0 && u <= 7 && field >= 0 && field <= 2);
        for (List<Doc> segment : seenSegments) {
            for (Doc doc : segment) {
                if (doc.id == id && !seenRemoved.contains(doc) && mayRead(doc, u)) {
                    if (!isOpen(field, u)) {
                        throw new UnsupportedOperationException();
                    }
                    return doc.values[field];
                }
            }
        }
        throw new NoSuchElementException();
    }

    private static int bits(Set<Integer> tokens) {
        int bits = 0;
        for (int token : tokens) {
            bits += 1 << token;
        }
        return bits;
    }

    int count(int what) {
        if (what >= 10 && what <= 17) {
            return bits(tokens(what - 10, members));
        }
        if (what >= 20 && what <= 27) {
            return bits(tokens(what - 20, seenMembers));
        }
        need(what >= 0 && what <= 8);
        return new int[] {docs.size(), buffer.size(), segments.size(), seenSegments.size(), looked, found, made, used, filters.size()}[what];
    }
}
