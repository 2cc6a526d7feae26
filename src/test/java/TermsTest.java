import java.util.ArrayList;
import java.util.List;
import java.util.TreeSet;

/** The document's "Terms", sentence by sentence; each method quotes its sentence, and the numbers of the promises that show it. */
public final class TermsTest {
    private static final int NOBODY = -1;
    private static final int NO_CLAUSE = 3;

    public static void main(String[] args) {
        Run.all(TermsTest.class);
    }

    /** "An object is used for at most 512 calls after it has been made": also the last of them is answered (1 to 18). */
    static void anObjectIsUsedFor512Calls(Run run) {
        String six = Calls.segments(0, 6) + "refresh() 6\n";
        int before = six.split("\n").length - blankRows(six);
        run.check(six + "search(0, 1) 0\n".repeat(511 - before) + "count(6) " + 6 * (511 - before));
        run.check("clause(0, 0, 0, 1.0) 1\nclear() 1\n".repeat(255) + "clause(1, 0, 0, 1.0) 1\nclear() 1\n");
        run.check("member(7, 15, true) true\nmember(7, 15, false) true\n".repeat(255) + "member(7, 15, true) true\ncount(17) 32896\n");
        run.check("hit(0)" + Calls.NO_HIT + "score(0)" + Calls.NO_HIT + ("value(0, 0, 0)" + Calls.GONE).repeat(509) + "add(-1) 0\n");
    }

    /** "TOKENS 0 to 7 are USERS, 8 to 15 GROUPS." (2, 3, 6, 14, 17) */
    static void tokens0To7AreUsersAnd8To15Groups(Run run) {
        run.check(Calls.each(0, 8, "level(1, #, 1) 0\nsearch(#, 1) 0\nvalue(#, 0, 0)" + Calls.GONE + "member(15, #, true)" + Calls.WRONG
            + "rule(#, true) true"));
        run.check(Calls.each(8, 16, "level(1, #, 1)" + Calls.WRONG + "search(#, 1)" + Calls.WRONG + "value(#, 0, 0)" + Calls.WRONG
            + "member(0, #, true) true\nrule(#, true) true"));
        run.check(Calls.each(16, 24, "level(1, #, 1)" + Calls.WRONG + "search(#, 1)" + Calls.WRONG + "value(#, 0, 0)" + Calls.WRONG
            + "member(0, #, true)" + Calls.WRONG + "rule(#, true)" + Calls.WRONG));
    }

    /**
     * "A TOKEN may be a MEMBER of GROUPS; the TOKENS of a USER are itself, the GROUPS it is a MEMBER of, those that these are MEMBERS of,
     * and so on (also in circles)." (2, 17, 18)
     */
    static void tokensOfAUserGoThroughGroups(Run run) {
        String joined = "member(0, 8, true) true\nmember(0, 9, true) true\nmember(9, 10, true) true\nmember(10, 11, true) true\n"
            + "member(11, 9, true) true\nmember(1, 11, true) true\nmember(12, 8, true) true\n";
        run.check(joined + "count(10) " + (1 | 0xf00) + "\ncount(11) " + (2 | 0xe00) + "\ncount(12) 4\n");
        for (int group = 8; group < 13; group++) {
            String first = group < 12 ? " 0\n" : Calls.GONE;
            String second = group > 8 && group < 12 ? " 0\n" : Calls.GONE;
            run.check(joined + "rule(" + group + ", true) true\nadd(-1) 0\nflush() 1\nrefresh() 1\nvalue(0, 0, 0)" + first
                + "value(1, 0, 0)" + second + "value(2, 0, 0)" + Calls.GONE);
        }
    }

    /**
     * "FIELDS 0 to 2 have a LEVEL, USERS a CLEARANCE (0 to 3, 0 at first): a FIELD is OPEN to a USER whose CLEARANCE is not below its
     * LEVEL." (3, 14, 17)
     */
    static void aFieldIsOpenToAClearanceThatIsNotBelowItsLevel(Run run) {
        for (int row = 0; row < 3 * 4 * 4; row++) {
            int field = row % 3;
            int level = row / 3 % 4;
            int clearance = row / 12;
            boolean open = clearance >= level;
            run.check("level(0, " + field + ", " + level + ") 0\nlevel(1, 5, " + clearance + ") 0\nrule(5, true) true\nput(" + field
                + ", 77) 0\nweigh(" + field + ", 4, 1.0) 16\nadd(-1) 0\nflush() 1\nrefresh() 1\n"
                + "value(5, 0, " + field + ")" + (open ? " 77\n" : Calls.VEILED) + "clause(0, 4, " + field + ", 1.0) 1\nsearch(5, 8) "
                + (open ? 1 : 0)
                + "\nvalue(5, 0, " + (field + 1) % 3 + ") 0\nvalue(5, 0, " + (field + 2) % 3 + ") 0\n");
        }
    }

    /** "A DOCUMENT has for each FIELD a VALUE (an int) and, ..": each of 40 documents its own three (5, 17). */
    static void eachDocumentHasAValueForEachField(Run run) {
        run.check(Calls.each(0, 40, "rule(0, true) true\nput(0, 1#) 0\nput(1, 2#) 0\nput(2, -3#) 0\nadd(-1) #") + "flush() 40\n"
            + "refresh() 40\n" + Calls.each(0, 40, "value(0, #, 0) 1#\nvalue(0, #, 1) 2#\nvalue(0, #, 2) -3#"));
    }

    /** "for TERMS 0 to 7, a CODE (0 to 255; 0 is none)": each document its own 24 (4, 14, 16). */
    static void eachDocumentHasACodeForEachTermOfEachField(Run run) {
        StringBuilder calls = new StringBuilder();
        for (int id = 0; id < 4; id++) {
            calls.append("rule(").append(id).append(", true) true\n");
            for (int place = 0; place < 24; place++) {
                int code = codeAt(id, place);
                calls.append("weigh(" + place / 8 + ", " + place % 8 + ", " + code / 16.0 + ") " + code + "\n");
            }
            calls.append("add(-1) ").append(id).append('\n');
        }
        calls.append("flush() 4\nrefresh() 4\n");
        for (int place = 0; place < 24; place++) {
            calls.append("clause(0, ").append(place % 8).append(", ").append(place / 8).append(", 1.0) 1\n");
            for (int id = 0; id < 4; id++) {
                int code = codeAt(id, place);
                calls.append("search(").append(id).append(", 1) ").append(code == 0 ? 0 : 1).append('\n');
                calls.append(code == 0 ? "" : "score(0) " + code / 16.0 + "\n");
            }
            calls.append("clear() 1\n");
        }
        run.check(calls.toString());
    }

    /** "TOKENS that it ALLOWS, and DENIES; perhaps a PARENT, a DOCUMENT with a lesser ID." (6, 7) */
    static void aParentHasALesserId(Run run) {
        StringBuilder calls = new StringBuilder();
        for (int id = 0; id < 40; id++) {
            calls.append("add(").append(id).append(')').append(Calls.WRONG).append("add(").append(id + 1).append(')').append(Calls.WRONG);
            calls.append("add(").append(id - 1).append(") ").append(id).append('\n');
        }
        run.check(calls.toString());
    }

    /** "THE DRAFT is one that is put together: without all that at first, and behind each add." (1, 4 to 7) */
    static void theDraftIsWithoutAllThatBehindEachAdd(Run run) {
        String full = "put(0, 5) 0\nput(1, 6) 0\nput(2, 7) 0\nrule(0, true) true\nrule(15, true) true\nrule(1, false) true\n"
            + "rule(14, false) true\nweigh(0, 0, 1.0) 16\nweigh(2, 7, 1.0) 16\n";
        run.check((full + "add(-1) 0\n") + (full + "add(0) 1\n") + full);
        run.check(full + "add(-1) 0\nadd(-1) 1\nrule(0, true) true\nadd(-1) 2\nflush() 3\nrefresh() 3\nvalue(0, 0, 0) 5\nvalue(0, 1, 0)"
            + Calls.GONE + Calls.each(0, 3, "value(0, 2, #) 0")
            + "clause(0, 0, 0, 1.0) 1\nclause(0, 7, 2, 1.0) 2\nsearch(0, 8) 1\nhit(0) 0\n");
    }

    /** "A weight w becomes the CODE: (int) of (float) w * 16 + 0.5 in floats, but 255 if that is above." (4) */
    static void aWeightBecomesACode(Run run) {
        StringBuilder calls = new StringBuilder();
        for (int i = 0; i < 512; i++) {
            float weight = i * 0.0371f;
            int code = (int) (weight * 16f + 0.5f);
            calls.append("weigh(0, 0, ").append((double) weight).append(") ").append(Math.min(255, code)).append('\n');
        }
        run.check(calls.toString());
    }

    /** "A CODE c is worth c / 16 (a float)." (16) */
    static void aCodeIsWorthASixteenthOfIt(Run run) {
        for (int code = 1; code < 256; code++) {
            run.check(Calls.document(0, code / 16.0) + "flush() 1\nrefresh() 1\nclause(0, 0, 0, 0.3) 1\nsearch(0, 1) 1\nscore(0) "
                + (double) ((float) 0.3 * (code / 16f)));
        }
    }

    /**
     * "A USER MAY READ a DOCUMENT, if none of its TOKENS is DENIED by it, its PARENT, the PARENT of that, and so on, and one is ALLOWED by
     * the first of these that ALLOWS any." (6, 7, 14, 17)
     * User 0 is in group 8; each of three documents in a line allows and denies the user, the group, another user or nobody.
     */
    static void whoMayRead(Run run) {
        int[] tokens = {NOBODY, 0, 8, 1};
        for (int row = 0; row < 4096; row++) {
            int[] allowed = {tokens[row & 3], tokens[row >> 2 & 3], tokens[row >> 4 & 3]};
            int[] denied = {tokens[row >> 6 & 3], tokens[row >> 8 & 3], tokens[row >> 10 & 3]};
            StringBuilder calls = new StringBuilder("member(0, 8, true) true\nclause(0, 0, 0, 1.0) 1\n");
            for (int id = 0; id < 3; id++) {
                calls.append(ruled(allowed[id], true)).append(ruled(denied[id], false));
                calls.append(id == 2 ? "weigh(0, 0, 1.0) 16\n" : "").append("add(").append(id - 1).append(") ").append(id).append('\n');
            }
            boolean reads = reads(allowed, denied);
            run.check(calls + "flush() 3\nrefresh() 3\nvalue(0, 2, 0)" + (reads ? " 0\n" : Calls.GONE) + "search(0, 1) " + (reads ? 1 : 0));
        }
    }

    /** "DOCUMENTS get IDS 0, 1, .. as they are added, at most 40 in all." (7, 18) */
    static void documentsGetIdsAsTheyAreAdded(Run run) {
        run.check(Calls.each(0, 5, "add(-1) #\nflush() 1") + "remove(4) -\nmerge() 1\nrefresh() 4\n" + Calls.each(5, 40, "add(-1) #\n"
            + "remove(#) -") + "count(0) 40\nadd(-1)" + Calls.FULL);
    }

    /** "They come into the BUFFER; flush makes a SEGMENT of it, merge one of all SEGMENTS" (7, 9, 10, 18) */
    static void bufferThenSegmentThenOneOfAll(Run run) {
        run.check(Calls.each(0, 5, "add(-1) #\ncount(1) 1\nflush() 1\ncount(1) 0") + "count(2) 5\nadd(-1) 5\nmerge() 0\ncount(1) 1\n"
            + "count(2) 1\nflush() 1\ncount(2) 2\nrefresh() 6\n");
    }

    /** "without DOCUMENTS that were removed; in each by rising IDS": where the best of 12 stands shows in which block it is (10, 14). */
    static void segmentsHaveRisingIds(Run run) {
        for (int best = 3; best < 12; best++) {
            StringBuilder calls = new StringBuilder();
            for (int id = 0; id < 12; id++) {
                calls.append(Calls.document(id, id == best ? 2 : 1)).append(id % 5 == 4 ? "flush() 5\n" : "");
            }
            int blockOfAll = best / 4;
            int blockOfLeft = (best - 3) / 4;
            run.check(calls + "flush() 2\nmerge() 0\nrefresh() 12\nclause(0, 0, 0, 1.0) 1\nsearch(0, 1) 1\nhit(0) " + best + "\ncount(4) "
                + (blockOfAll == 0 ? 1 : 2)
                + "\nremove(0) -\nremove(1) -\nremove(2) -\nmerge() 3\nrefresh() 9\nsearch(0, 1) 1\nhit(0) " + best + "\ncount(4) "
                + (blockOfLeft == 0 ? 1 : 2) + "\ncount(5) " + (blockOfLeft == 0 ? 4 : blockOfLeft == 1 ? 8 : 5));
        }
    }

    /** "A SEGMENT consists of BLOCKS of 4 DOCUMENTS, the last one perhaps of fewer." (14, 18) */
    static void blocksOf4Documents(Run run) {
        for (int first = 1; first <= 9; first++) {
            for (int second = 1; second <= 9; second++) {
                run.check(Calls.each(0, first, "add(-1) #") + "flush() " + first + "\n" + Calls.each(first, first + second, "add(-1) #")
                    + "flush() " + second + "\nrefresh() " + (first + second)
                    + "\nsearch(0, 8) 0\ncount(4) " + ((first + 3) / 4 + (second + 3) / 4) + "\nmerge() 0\nrefresh() " + (first + second)
                    + "\nsearch(0, 8) 0\ncount(4) " + (first + second + 3) / 4);
            }
        }
    }

    /** "Removed ones stay in SEGMENTS till then" (8, 10, 11) */
    static void removedOnesStayInSegmentsTillMerge(Run run) {
        run.check(Calls.documents(0, 5) + "flush() 5\n" + Calls.each(0, 4, "remove(#) -") + "count(2) 1\nrefresh() 1\n"
            + "clause(0, 0, 0, 1.0) 1\nsearch(0, 1) 1\nhit(0) 4\ncount(4) 2\nmerge() 4\nrefresh() 1\nsearch(0, 1) 1\nhit(0) 4\n"
            + "count(4) 1\n");
    }

    /** "their IDS, and what they ALLOW and DENY, stay for good." (7, 8, 10) */
    static void idsAndRulesOfRemovedOnesStay(Run run) {
        String removed = "rule(0, true) true\nrule(1, true) true\nrule(1, false) true\nadd(-1) 0\nadd(0) 1\nflush() 2\nremove(0) -\n"
            + "remove(1) -\nmerge() 2\nrefresh() 0\n";
        run.check(removed + "add(1) 2\nadd(0) 3\nflush() 2\nrefresh() 2\n" + Calls.each(2, 4, "value(0, #, 0) 0\nvalue(1, #, 0)"
            + Calls.GONE) + "count(0) 4\nremove(0)" + Calls.GONE);
    }

    /**
     * "THE SNAPSHOT is what refresh found: the SEGMENTS, which DOCUMENTS in them are removed, all MEMBERS, LEVELS, CLEARANCES." (11, 14,
     * 17, 18)
     */
    static void theSnapshotIsWhatRefreshFound(Run run) {
        String two = "rule(8, true) true\nput(1, 9) 0\nweigh(1, 0, 1.0) 16\nadd(-1) 0\nadd(0) 1\nmember(0, 8, true) true\n"
            + "level(0, 1, 1) 0\nlevel(1, 0, 1) 0\nflush() 2\nrefresh() 2\nclause(0, 0, 1, 1.0) 1\n";
        String asBefore = "count(3) 1\ncount(20) 257\nvalue(0, 0, 1) 9\nsearch(0, 8) 1\nhit(0) 0\ncount(4) 1\n";
        String[] changes = {"add(0) 2\nflush() 1\n", "remove(0) -\n", "remove(0) -\n"
            + "merge() 1\n", "member(0, 8, false) true\n", "member(8, 9, true) true\n", "level(0, 1, 2) 1\n", "level(1, 0, 0) 1\n"};
        String[] refreshed = {
            "refresh() 3\ncount(3) 2\ncount(20) 257\nvalue(0, 2, 1) 0\n",
            "refresh() 1\ncount(3) 1\nvalue(0, 0, 1)" + Calls.GONE,
            "refresh() 1\ncount(3) 1\nvalue(0, 0, 1)" + Calls.GONE,
            "refresh() 2\ncount(20) 1\nvalue(0, 0, 1)" + Calls.GONE + "search(0, 8) 0\n",
            "refresh() 2\ncount(20) 769\nvalue(0, 0, 1) 9\n",
            "refresh() 2\nvalue(0, 0, 1)" + Calls.VEILED + "search(0, 8) 0\n",
            "refresh() 2\nvalue(0, 0, 1)" + Calls.VEILED + "search(0, 8) 0\n"};
        for (int i = 0; i < changes.length; i++) {
            run.check(two + asBefore + changes[i] + asBefore + refreshed[i]);
        }
    }

    /** "At first it has no SEGMENTS, and nothing was joined or levelled." (1, 11, 18) */
    static void atFirstTheSnapshotHasNothing(Run run) {
        run.check(Calls.segments(0, 2) + "member(0, 8, true) true\nlevel(0, 0, 3) 0\ncount(3) 0\n" + Calls.each(0, 8, "search(#, 8) 0\n"
            + "count(4) 0\ncount(6) 0") + "count(20) 1\nrefresh() 2\ncount(3) 2\ncount(20) 257\n");
    }

    /** "A QUERY is up to 6 CLAUSES (a sort, a TERM, a FIELD, a weight): 0 SCORES, 1 MUST, 2 NOT." (12) */
    static void aQueryIsUpTo6Clauses(Run run) {
        run.check(Calls.each(1, 7, "clause(0, #, 1, 2.0) #") + "clause(0, 7, 1, 2.0)" + Calls.FULL + "clear() 6\n"
            + Calls.each(0, 3, "clause(#, 0, 0, 0.0) 1\nclear() 1") + "clause(3, 0, 0, 0.0)" + Calls.WRONG);
    }

    /** "For a USER, by THE SNAPSHOT: .." (11, 14) */
    static void aQueryIsAnsweredForAUserByTheSnapshot(Run run) {
        String one = "rule(8, true) true\nweigh(1, 0, 1.0) 16\nadd(-1) 0\nmember(0, 8, true) true\nlevel(0, 1, 1) 0\nlevel(1, 0, 1) 0\n"
            + "flush() 1\n"
            + "refresh() 1\nclause(0, 0, 1, 1.0) 1\n";
        run.check(one + "search(0, 8) 1\nsearch(1, 8) 0\nmember(1, 8, true) true\nsearch(1, 8) 0\nrefresh() 1\nsearch(1, 8) 0\n"
            + "level(1, 1, 3) 0\n"
            + "search(1, 8) 0\nrefresh() 1\nsearch(1, 8) 1\nsearch(0, 8) 1\nlevel(0, 1, 2) 1\nsearch(0, 8) 1\nrefresh() 1\nsearch(0, 8) 0\n"
            + "search(1, 8) 1\n");
    }

    /** "A DOCUMENT is FOUND if it is in a SEGMENT, not removed, MAY be READ, .." (8, 9, 14, 18) */
    static void whichDocumentsCanBeFound(Run run) {
        for (int row = 0; row < 8; row++) {
            boolean flushed = (row & 1) != 0;
            boolean removed = (row & 2) != 0;
            boolean allowed = (row & 4) != 0;
            int living = flushed && !removed ? 1 : 0;
            int found = allowed ? living : 0;
            run.check("rule(" + (allowed ? 0 : 1) + ", true) true\nweigh(0, 0, 1.0) 16\nadd(-1) 0\n" + (flushed ? "flush() 1\n" : "")
                + (removed ? "remove(0) -\n" : "") + "refresh() " + living + "\nclause(0, 0, 0, 1.0) 1\nsearch(0, 8) " + found
                + "\ncount(4) " + (flushed ? 1 : 0) + "\ncount(5) " + found + "\n");
        }
    }

    /**
     * "CLAUSES of FIELDS that are not OPEN are left out, but with a MUST of these nothing is found. A DOCUMENT is FOUND if it .. has a
     * CODE above 0 for each MUST and none for any NOT, and one for some SCORES." (14, 18)
     * Two clauses of each sort, of an open and of a veiled field, on documents with and without their codes.
     */
    static void whatIsFound(Run run) {
        for (int row = 0; row < 4 * 4 * 2 * 2 * 4; row++) {
            int[] sorts = {row & 3, row >> 2 & 3};
            int[] fields = {row >> 4 & 1, row >> 5 & 1};
            boolean[] has = {(row >> 6 & 1) == 1, (row >> 7 & 1) == 1};
            StringBuilder calls = new StringBuilder("level(0, 1, 1) 0\nrule(0, true) true\n");
            int clauses = 0;
            for (int i = 0; i < 2; i++) {
                calls.append(has[i] ? "weigh(" + fields[i] + ", " + i + ", 1.0) 16\n" : "");
                clauses += sorts[i] == NO_CLAUSE ? 0 : 1;
                calls.append(sorts[i] == NO_CLAUSE ? "" : "clause(" + sorts[i] + ", " + i + ", " + fields[i] + ", 1.0) " + clauses + "\n");
            }
            int found = isFound(sorts, fields, has) ? 1 : 0;
            run.check(calls + "add(-1) 0\nflush() 1\nrefresh() 1\nsearch(0, 8) " + found + "\ncount(4) 1\ncount(5) " + found + "\n");
        }
    }

    /**
     * "Its SCORE is a float, 0 at first: for each SCORES with a CODE c, by rising TERMS, then FIELDS, then as they came, it becomes the
     * float of it + the float of (float) weight * (c / 16)." (16)
     */
    static void aScoreIsAddedUpInFloats(Run run) {
        int[][] places = {{2, 0}, {2, 1}, {4, 0}, {4, 0}, {4, 0}, {7, 2}};
        double[] weights = {0.1, 0.0333, 1000.0, 5.17e-5, 3.33e-5, 999.9};
        String document = "rule(0, true) true\nweigh(0, 2, 0.1875) 3\nweigh(1, 2, 15.9375) 255\nweigh(0, 4, 4.8125) 77\n"
            + "weigh(2, 7, 0.0625) 1\n"
            + "add(-1) 0\nflush() 1\nrefresh() 1\n";
        float[] worths = {3 / 16f, 255 / 16f, 77 / 16f, 77 / 16f, 77 / 16f, 1 / 16f};
        TreeSet<Float> sums = new TreeSet<>();
        for (int[] order : ordersOfSix()) {
            StringBuilder clauses = new StringBuilder();
            int[] added = order.clone();
            for (int i = 0; i < 6; i++) {
                int[] place = places[order[i]];
                clauses.append("clause(0, " + place[0] + ", " + place[1] + ", " + weights[order[i]] + ") " + (i + 1) + "\n");
            }
            sortByPlace(added, places);
            float sum = 0;
            for (int i : added) {
                sum = sum + (float) weights[i] * worths[i];
            }
            sums.add(sum);
            run.check(document + clauses + "search(0, 1) 1\nscore(0) " + (double) sum);
        }
        run.due("whether it can be seen how they came", "" + (sums.size() > 1), "true");
    }

    /** "The first k by falling SCORES, then rising IDS, are the HITS." (14, 15, 16) */
    static void theFirstKAreTheHits(Run run) {
        int[] weights = {2, 5, 2, 9, 5, 1, 9, 5, 2, 3, 9, 1};
        int[] order = {3, 6, 10, 1, 4, 7, 9, 0};
        StringBuilder calls = new StringBuilder();
        for (int id = 0; id < weights.length; id++) {
            calls.append(Calls.document(id, weights[id])).append(id == 6 ? "flush() 7\n" : "");
        }
        calls.append("flush() 5\nrefresh() 12\nclause(0, 0, 0, 1.0) 1\n");
        for (int k = 1; k <= 8; k++) {
            calls.append("search(0, ").append(k).append(") ").append(k).append('\n');
            for (int i = 0; i < k; i++) {
                calls.append("hit(").append(i).append(") ").append(order[i]).append("\n"
                    + "score(").append(i).append(") ").append((double) weights[order[i]]).append('\n');
            }
        }
        run.check(calls.toString());
    }

    /**
     * "SEGMENT by SEGMENT as they came, BLOCK by BLOCK; as long as there are not k HITS each BLOCK is LOOKED AT; then just one whose BOUND
     * is above the SCORE of the last HIT" (14, 18)
     */
    static void whichBlocksAreLookedAt(Run run) {
        int[] weights = {1, 3, 1, 1, 3, 2, 2, 2, 4, 1, 4, 1, 4, 4, 4, 4, 5, 1, 1, 1};
        StringBuilder calls = new StringBuilder();
        for (int id = 0; id < weights.length; id++) {
            calls.append(Calls.document(id, weights[id])).append(id == 7 ? "flush() 8\n" : "");
        }
        run.check(calls + "flush() 12\nrefresh() 20\nclause(0, 0, 0, 1.0) 1\n"
            + "search(0, 1) 1\nhit(0) 16\ncount(4) 3\ncount(5) 12\n"
            + "search(0, 2) 2\nhit(1) 8\ncount(4) 4\ncount(5) 16\n"
            + "search(0, 3) 3\nhit(2) 10\ncount(4) 5\ncount(5) 20\n"
            + "search(0, 4) 4\nhit(3) 12\ncount(4) 5\ncount(5) 20\n");
    }

    /** "the SCORE of a DOCUMENT that would have, for each SCORES, the greatest CODE of the BLOCK (of all DOCUMENTS in it)" (14, 18) */
    static void aBoundIsOfTheGreatestCodes(Run run) {
        String four = Calls.each(0, 4, "rule(0, true) true\nweigh(0, 0, 5.0) 80\nadd(-1) #");
        String apart = "rule(0, true) true\nweigh(0, 0, 2.0) 32\nadd(-1) 4\nrule(0, true) true\nweigh(0, 1, 2.0) 32\nadd(-1) 5\nadd(-1) 6\n"
            + "rule(1, true) true\nweigh(1, 0, 1.0) 16\nadd(-1) 7\n";
        String seen = "flush() 8\nremove(5) -\nrefresh() 7\nclause(0, 1, 0, 1.0) 1\nclause(0, 0, 1, 1.0) 2\nclause(0, 0, 0, 1.0) 3\n";
        run.check(four + apart + seen + "search(0, 4) 4\ncount(4) 1\ncount(5) 4\nclause(0, 0, 1, 0.0625) 4\nsearch(0, 4) 4\nhit(3) 3\n"
            + "count(4) 2\ncount(5) 5\n");
    }

    /**
     * "In BLOCKS that are LOOKED AT each DOCUMENT that is FOUND comes among the HITS, and the last one goes if there are more than k." (14,
     * 18)
     */
    static void eachFoundOneComesAndTheLastGoes(Run run) {
        run.check(Calls.document(0, 1) + Calls.document(1, 2) + Calls.document(2, 3) + Calls.document(3, 4) + Calls.document(4, 4)
            + "flush() 5\nrefresh() 5\nclause(0, 0, 0, 1.0) 1\n"
            + "search(0, 2) 2\nhit(0) 3\nhit(1) 4\ncount(4) 2\ncount(5) 5\nhit(2)" + Calls.NO_HIT + "search(0, 1) 1\nhit(0) 3\ncount(4) 1\n"
            + "count(5) 4\n");
        run.check(Calls.document(0, 1) + Calls.document(1, 4) + Calls.document(2, 4) + Calls.document(3, 4) + "flush() 4\nrefresh() 4\n"
            + "clause(0, 0, 0, 1.0) 1\nsearch(0, 1) 1\nhit(0) 1\nsearch(0, 2) 2\nhit(0) 1\nhit(1) 2\ncount(5) 4\n");
    }

    /** "FILTERS: which DOCUMENTS of a SEGMENT a USER MAY READ.": one that is used lets the same through as when it was made (14, 18). */
    static void aFilterTellsWhichDocumentsAUserMayRead(Run run) {
        String thirteen = Calls.each(0, 8, "rule(#, true) true\nweigh(0, 0, 1.0) 16\nadd(-1) #") + "flush() 8\n"
            + Calls.each(8, 13, "rule(0, true) true\nrule(1, true) true\nweigh(0, 0, 1.0) 16\nadd(-1) #") + "flush() 5\nremove(12) -\n"
            + "refresh() 12\n"
            + "clause(0, 0, 0, 1.0) 1\n";
        String both = Calls.each(0, 2, "search(#, 8) 5\nhit(0) #\nhit(1) 8\nhit(4) 11\ncount(5) 5");
        run.check(thirteen + both + "count(6) 4\ncount(7) 0\n" + both + "count(6) 4\ncount(7) 4\nsearch(2, 8) 1\nhit(0) 2\ncount(6) 6\n"
            + "count(8) 5\n" + both);
    }

    /**
     * "For each SEGMENT of THE SNAPSHOT (also if no BLOCK is LOOKED AT) a search uses the FILTER that is KEPT for the SEGMENT and USER, or
     * else makes one, which is KEPT" (14, 18)
     */
    static void aFilterForEachSegmentAndUser(Run run) {
        String two = Calls.segments(0, 2) + "refresh() 2\nclause(0, 0, 0, 1.0) 1\n";
        run.check(two + "search(0, 1) 1\ncount(4) 1\ncount(6) 2\ncount(7) 0\ncount(8) 2\nsearch(1, 1) 0\ncount(6) 4\ncount(7) 0\n"
            + "count(8) 4\nsearch(0, 2) 2\ncount(6) 4\ncount(7) 2\ncount(8) 4\n");
    }

    /** "at most 5 are: the one that was used the longest ago goes" (14, 18) */
    static void theFilterThatWasUsedTheLongestAgoGoes(Run run) {
        for (int again = 0; again < 5; again++) {
            int gone = again == 0 ? 1 : 0;
            run.check(Calls.segments(0, 1) + "refresh() 1\n" + Calls.each(0, 5, "search(#, 1) 0") + "search(" + again + ", 1) 0\n"
                + "count(7) 1\nsearch(5, 1) 0\ncount(6) 6\ncount(8) 5\n"
                + "search(" + again + ", 1) 0\ncount(7) 2\nsearch(" + gone + ", 1) 0\ncount(6) 7\ncount(7) 2\ncount(8) 5\n");
        }
    }

    /**
     * "refresh drops all if a MEMBER, LEVEL or CLEARANCE is another one, else those of SEGMENTS that are not in THE SNAPSHOT any more."
     * (11, 18)
     */
    static void refreshDropsFilters(Run run) {
        String kept = Calls.segments(0, 2) + "refresh() 2\nsearch(0, 1) 0\nsearch(1, 1) 0\ncount(8) 4\n";
        run.check(kept + "refresh() 2\ncount(8) 4\n");
        run.check(kept + Calls.segments(2, 3) + "refresh() 3\ncount(8) 4\n");
        run.check(kept + "remove(0) -\nrefresh() 1\ncount(8) 4\n");
        run.check(kept + "merge() 0\ncount(8) 4\nrefresh() 2\ncount(8) 0\n");
        run.check(kept + "member(15, 8, true) true\ncount(8) 4\nrefresh() 2\ncount(8) 0\n");
        run.check(kept + "level(0, 2, 1) 0\ncount(8) 4\nrefresh() 2\ncount(8) 0\n");
        run.check(kept + "level(1, 7, 1) 0\ncount(8) 4\nrefresh() 2\ncount(8) 0\n");
    }

    /** All orders of the numbers 0 to 5. */
    private static List<int[]> ordersOfSix() {
        List<int[]> orders = new ArrayList<>();
        for (int row = 0; row < 720; row++) {
            List<Integer> left = new ArrayList<>(List.of(0, 1, 2, 3, 4, 5));
            int[] order = new int[6];
            int rest = row;
            for (int i = 0; i < 6; i++) {
                order[i] = left.remove(rest % left.size());
                rest /= 6 - i;
            }
            orders.add(order);
        }
        return orders;
    }

    /** By rising terms, then fields; what has the same of both stays in its order. */
    private static void sortByPlace(int[] order, int[][] places) {
        for (int end = order.length - 1; end > 0; end--) {
            for (int i = 0; i < end; i++) {
                int[] first = places[order[i]];
                int[] second = places[order[i + 1]];
                if (first[0] > second[0] || first[0] == second[0] && first[1] > second[1]) {
                    int swapped = order[i];
                    order[i] = order[i + 1];
                    order[i + 1] = swapped;
                }
            }
        }
    }

    private static int blankRows(String calls) {
        int blank = 0;
        for (String line : calls.split("\n")) {
            blank += line.isBlank() ? 1 : 0;
        }
        return blank;
    }

    /** Any codes that differ from one document, field and term to the next, with some that are none. */
    private static int codeAt(int id, int place) {
        return (id * 61 + place * 11) % 7 == 0 ? 0 : (id * 61 + place * 11) % 256;
    }

    private static String ruled(int token, boolean allows) {
        return token == NOBODY ? "" : "rule(" + token + ", " + allows + ") true\n";
    }

    /** Whether user 0, who is in group 8, may read the last of the documents in a line. */
    private static boolean reads(int[] allowed, int[] denied) {
        for (int token : denied) {
            if (token == 0 || token == 8) {
                return false;
            }
        }
        for (int id = 2; id >= 0; id--) {
            if (allowed[id] != NOBODY) {
                return allowed[id] == 0 || allowed[id] == 8;
            }
        }
        return false;
    }

    /** Field 1 is not open. */
    private static boolean isFound(int[] sorts, int[] fields, boolean[] has) {
        boolean scored = false;
        for (int i = 0; i < 2; i++) {
            boolean open = fields[i] == 0;
            if (sorts[i] == 1 && !(open && has[i]) || sorts[i] == 2 && open && has[i]) {
                return false;
            }
            scored |= sorts[i] == 0 && open && has[i];
        }
        return scored;
    }
}
