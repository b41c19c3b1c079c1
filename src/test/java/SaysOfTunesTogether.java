/** Sentences on what tunes have in common and what tells them apart: Terms, promises 20 to 24. */
final class SaysOfTunesTogether extends Checks {
    private static final String SIX = "a;b;c;d;e;f";

    private static void both(String what, String tunes, int common, int far) {
        TuneLoans x = bank(tunes, "");
        due(what + ", common", x.common(0, 1), common);
        due(what + ", common the other way", x.common(1, 0), common);
        due(what + ", far", x.far(0, 1), far);
        due(what + ", far the other way", x.far(1, 0), far);
    }

    private static void tells(String tunes, int tune, int many, int bits) {
        TuneLoans x = bank(tunes, "");
        due("how many tell " + tune + " in " + tunes, x.tells(tune, 0), many);
        due("what tells " + tune + " in " + tunes, x.tells(tune, 1), bits);
    }

    // ---- common, far

    @Says("COMMON of two tunes is the length of the longest row of NOTES that is in both in that order (others may be between).")
    static void fromNoneToAllTwelve() {
        both("nothing", "a;b", 0, 2);
        both("one of one", "a;a", 1, 0);
        both("nothing of twelve", "abcabcabcabc;defdefdefdef", 0, 24);
        both("twelve", "abcdefgabcde;abcdefgabcde", 12, 0);
        both("eleven of twelve", "abcdefgabcde;abcdefgabcd", 11, 1);
        both("eleven, but for the first", "abcdefgabcde;bcdefgabcde", 11, 1);
    }

    @Says("COMMON of two tunes is the length of the longest row of NOTES that is in both in that order (others may be between).")
    static void othersMayBeBetween() {
        both("in one", "abc;adbec", 3, 2);
        both("in both", "agbgcg;fafbfc", 3, 6);
        both("first and last alone", "abbbbbbbbbbc;adddddddddc", 2, 19);
    }

    @Says("COMMON of two tunes is the length of the longest row of NOTES that is in both in that order (others may be between).")
    static void inThatOrderAlone() {
        both("two turned", "ab;ba", 1, 2);
        both("seven turned", "abcdefg;gfedcba", 1, 12);
        both("as often as in both", "aab;aaab", 3, 1);
    }

    @Says("COMMON of two tunes is the length of the longest row of NOTES that is in both in that order (others may be between).")
    static void upToFortyNotesBehindALoan() {
        TuneLoans x = bank("aaaabbbbbbbc;aaaaab", "a+a;c-c");
        x.ear(12);
        x.loan(0, 0, 0, 3);
        due("all twelve in forty", x.came(0, 1), 0);
        x.loan(0, 1, 0, 3);
        due("five of six in forty", x.came(1, 1), 1);
        x.loan(3, 0, 1, 1);
        due("39 of forty", x.came(2, 1), 0);
    }

    @Says("FAR they are by both lengths, less twice COMMON.")
    static void farIsFrom0To24() {
        both("like ones", "abc;abc", 3, 0);
        both("the shortest", "a;b", 0, 2);
        both("the longest", "aaaaaaaaaaaa;bbbbbbbbbbbb", 0, 24);
        both("one in twelve", "a;bbbbbabbbbbb", 1, 11);
    }

    @Says("COMMON, FAR of two TUNES as told.")
    static void loansHaveNoSay() {
        TuneLoans x = bank("ab;cb", "a+b;c-c");
        x.ear(0);
        x.loan(0, 0, 0, 9);
        x.loan(0, 1, 1, 1);
        due("common", x.common(0, 1), 1);
        due("far", x.far(0, 1), 2);
        due("common of itself", x.common(0, 0), 2);
    }

    // ---- nearest

    @Says("NEAREST of one: the other one that is least FAR, of like ones the least; NONE.")
    static void nearestIsNeverItself() {
        TuneLoans x = bank("abc;g;abcd", "");
        due("of the first", x.nearest(0), 2);
        due("of the second", x.nearest(1), 0);
        due("of the third", x.nearest(2), 0);
    }

    @Says("NEAREST of one: the other one that is least FAR, of like ones the least; NONE.")
    static void ofLikeNearOnesTheLeast() {
        TuneLoans x = bank("aa;ab;ac;ad;ae;af", "");
        due("of the first", x.nearest(0), 1);
        for (int t = 1; t < 6; t++) due("of " + t, x.nearest(t), 0);
        due("of the first, a nearer one ahead of the least", bank("aa;gg;ab;aa;aa", "").nearest(0), 3);
    }

    @Says("NEAREST of one: the other one that is least FAR, of like ones the least; NONE.")
    static void nearestMayBeTheLastAndMayBe24Far() {
        due("the last of six", bank("abc;d;e;f;g;abc", "").nearest(0), 5);
        due("24 far", bank("aaaaaaaaaaaa;bbbbbbbbbbbb", "").nearest(0), 1);
    }

    @Says("NEAREST of one: the other one that is least FAR, of like ones the least; NONE.")
    static void oneAloneHasNoNearest() {
        due("alone", bank("abc", "").nearest(0), NONE);
        due("no more", bank("abc;a", "").nearest(0), 1);
    }

    // ---- mothers

    @Says("MOTHERS of one: TUNES (others) all of whose NOTES are in it in that order, as bits.")
    static void mothersAreOthers() {
        due("alone", bank("abc", "").mothers(0), 0);
        TuneLoans x = bank("abc;abc", "");
        due("its like", x.mothers(0), 2);
        due("and back", x.mothers(1), 1);
    }

    @Says("MOTHERS of one: TUNES (others) all of whose NOTES are in it in that order, as bits.")
    static void allNotesInThatOrder() {
        TuneLoans x = bank("abcd;ad;da;abcde;bc;aa", "");
        due("of the first", x.mothers(0), 2 + 16);
        due("of the longest", x.mothers(3), 1 + 2 + 16);
        due("of a short one", x.mothers(1), 0);
        due("of one that has the same twice", x.mothers(5), 0);
    }

    @Says("MOTHERS of one: TUNES (others) all of whose NOTES are in it in that order, as bits.")
    static void bitsOfAllSix() {
        TuneLoans x = bank("abcdefgabcde;a;b;c;d;e", "");
        due("all but itself", x.mothers(0), 62);
        due("of the last", x.mothers(5), 0);
        TuneLoans y = bank("a;a;a;a;a;a", "");
        for (int t = 0; t < 6; t++) due("all but " + t, y.mothers(t), 63 - (1 << t));
    }

    // ---- tells

    @Says("TELLS of one: the fewest places (0 to 11) of NOTES by which it is not any other TUNE (another NOTE, or none, or one where it has none)")
    static void byAnotherNote() {
        tells("a;b", 0, 1, 1);
        tells("aaaaaaaaaaaa;aaaaaaaaaaab", 0, 1, 2048);
        tells("aaaaaaaaaaaa;aaaaaaaaaaab", 1, 1, 2048);
        tells("baaaaaaaaaaa;aaaaaaaaaaaa", 0, 1, 1);
        for (int k = 0; k <= 11; k++) {
            String other = "a".repeat(k) + "b" + "a".repeat(11 - k);
            tells("aaaaaaaaaaaa;" + other, 0, 1, 1 << k);
        }
    }

    @Says("TELLS of one: the fewest places (0 to 11) of NOTES by which it is not any other TUNE (another NOTE, or none, or one where it has none)")
    static void byNoneAndByOneWhereItHasNone() {
        tells("a;ab", 0, 1, 2);
        tells("a;ab", 1, 1, 2);
        tells("aaaaaaaaaaaa;aaaaaaaaaaa", 0, 1, 2048);
        tells("aaaaaaaaaaaa;aaaaaaaaaaa", 1, 1, 2048);
        tells("aa;aaab", 0, 1, 4);
    }

    @Says("TELLS of one: the fewest places (0 to 11) of NOTES by which it is not any other TUNE (another NOTE, or none, or one where it has none)")
    static void ofOneAloneNoPlace() {
        tells("a", 0, 0, 0);
        tells("abcdefgabcde", 0, 0, 0);
    }

    @Says("TELLS of one: the fewest places (0 to 11) of NOTES by which it is not any other TUNE (another NOTE, or none, or one where it has none)")
    static void fivePlacesAtMost() {
        tells("aaaaa;baaaa;abaaa;aabaa;aaaba;aaaab", 0, 5, 31);
        tells("aaaaa;baaaa;abaaa;aabaa;aaaba", 0, 4, 15);
        tells("aaaaa;baaaa;abaaa;aabaa;aaaba;aaaab", 1, 1, 1);
    }

    @Says("of like ones the least bits: how many; as bits;")
    static void ofLikePlacesTheLeastBits() {
        tells("abc;def", 0, 1, 1);
        tells("abc;aef", 0, 1, 2);
        tells("aba;bba;aca", 0, 2, 3);
        tells("aaaa;bbaa;aabb;baab", 0, 2, 5);
        tells("aaa;bba;bab;abb", 0, 2, 3);
    }

    @Says("of like ones the least bits: how many; as bits;")
    static void theFewestAheadOfTheLeastBits() {
        tells("aaa;bab;abb", 0, 1, 4);
        tells("aaaaaaaaaaaa;baaaaaaaaaab;abaaaaaaaaab", 0, 1, 2048);
    }

    @Says("NONE: one is like it.")
    static void nothingTellsLikeOnes() {
        tells("a;a", 0, NONE, NONE);
        tells("ab;cd;ab", 0, NONE, NONE);
        tells("ab;cd;ab", 2, NONE, NONE);
        tells("ab;cd;ab", 1, 1, 1);
        tells("abcdefgabcde;abcdefgabcde", 1, NONE, NONE);
        tells("a;b;c;d;e;a", 5, NONE, NONE);
    }

    // ---- promises 20 to 24

    @Says(promise = 20, value = "COMMON. BAD.")
    static void commonOfNoSuchTunes() {
        TuneLoans x = bank(SIX, "");
        for (int t : new int[] {-1, 6, Integer.MIN_VALUE, Integer.MAX_VALUE}) {
            due("tune " + t, x.common(t, 0), BAD);
            due("other " + t, x.common(0, t), BAD);
        }
        due("of the last", x.common(5, 5), 1);
        due("of first and last", x.common(0, 5), 0);
        due("tune 0 of none", new TuneLoans().common(0, 0), BAD);
    }

    @Says(promise = 21, value = "FAR. BAD.")
    static void farOfNoSuchTunes() {
        TuneLoans x = bank(SIX, "");
        for (int t : new int[] {-1, 6, Integer.MIN_VALUE, Integer.MAX_VALUE}) {
            due("tune " + t, x.far(t, 0), BAD);
            due("other " + t, x.far(0, t), BAD);
        }
        due("of the last", x.far(5, 5), 0);
        due("of first and last", x.far(0, 5), 2);
        due("tune 0 of none", new TuneLoans().far(0, 0), BAD);
    }

    @Says(promise = 22, value = "NEAREST; NONE. BAD.")
    static void nearestOfNoSuchTune() {
        TuneLoans x = bank(SIX, "");
        for (int t : new int[] {-1, 6, Integer.MIN_VALUE, Integer.MAX_VALUE}) due("tune " + t, x.nearest(t), BAD);
        due("of the last", x.nearest(5), 0);
        due("tune 1 of one", bank("a", "").nearest(1), BAD);
        due("tune 0 of none", new TuneLoans().nearest(0), BAD);
    }

    @Says(promise = 23, value = "MOTHERS, as bits. BAD.")
    static void mothersOfNoSuchTune() {
        TuneLoans x = bank(SIX, "");
        for (int t : new int[] {-1, 6, Integer.MIN_VALUE, Integer.MAX_VALUE}) due("tune " + t, x.mothers(t), BAD);
        due("of the last", x.mothers(5), 0);
        due("tune 1 of one", bank("a", "").mothers(1), BAD);
        due("tune 0 of none", new TuneLoans().mothers(0), BAD);
    }

    @Says(promise = 24, value = "TELLS: how many (what = 0), as bits (1); NONE. BAD.")
    static void tellsOfNoSuchTune() {
        TuneLoans x = bank(SIX, "");
        for (int t : new int[] {-1, 6, Integer.MIN_VALUE, Integer.MAX_VALUE}) due("tune " + t, x.tells(t, 0), BAD);
        due("of the last", x.tells(5, 0), 1);
        due("tune 1 of one", bank("a", "").tells(1, 0), BAD);
        due("tune 0 of none", new TuneLoans().tells(0, 0), BAD);
    }

    @Says(promise = 24, value = "TELLS: how many (what = 0), as bits (1); NONE. BAD.")
    static void tellsOfNoSuchWhat() {
        TuneLoans x = bank("ab;ac", "");
        due("what -1", x.tells(0, -1), BAD);
        due("what 2", x.tells(0, 2), BAD);
        for (int far : FAR_OUT) due("what far out", x.tells(0, far), BAD);
        due("what 0", x.tells(0, 0), 1);
        due("what 1", x.tells(0, 1), 2);
    }
}
