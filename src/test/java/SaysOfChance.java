/** Sentences on bad ears, on chance and on lots: Terms, promises 25 to 28. */
final class SaysOfChance extends Checks {
    /** Of six tunes as long as each other one borrower hums a b behind the one that is drawn. */
    private static final String SIX = "a;a;a;a;a;a";
    private static final String TO_C_AND_DOUBLED = "b/c;c+c";

    /** Known by an ear up to many: then its one b has become a c, that is doubled in the year behind. */
    private static TuneLoans earnsOneUpTo(int many) {
        TuneLoans x = bank("a".repeat(many) + "b", TO_C_AND_DOUBLED);
        x.loan(0, 0, 0, 1);
        x.loan(1, 0, 1, 1);
        return x;
    }

    /** As that, up to an ear of 12: it had thirteen notes. */
    private static TuneLoans earnsSevenUpTo12() {
        TuneLoans x = bank("aaaaaab", "a+a;b/c;c+c");
        x.loan(0, 0, 0, 1);
        x.loan(1, 0, 1, 1);
        x.loan(2, 0, 2, 1);
        return x;
    }

    private static void chance(String what, TuneLoans x, int c, int years, int notes, long above, long below) {
        due(what + ", above", x.hums(c, 0, 0, years, notes, 0), above);
        due(what + ", below", x.hums(c, 0, 0, years, notes, 1), below);
    }

    // ---- loses, best

    @Says("LOSES: by how much INTEREST behind YEAR 39 is less by a told EAR (0 to 12) than by an EAR of 0.")
    static void anEarLosesWhatItDoesNotKnow() {
        for (int many = 0; many <= 11; many++) {
            TuneLoans x = earnsOneUpTo(many);
            for (int ear = 0; ear <= 12; ear++) {
                due("known up to " + many + ", ear " + ear, x.loses(ear), ear <= many ? 0 : 1);
            }
        }
        due("thirteen notes, ear 12", earnsSevenUpTo12().loses(12), 0);
    }

    @Says("LOSES: by how much INTEREST behind YEAR 39 is less by a told EAR (0 to 12) than by an EAR of 0.")
    static void anEarOf0LosesNothing() {
        due("without tunes", new TuneLoans().loses(0), 0);
        TuneLoans x = bank("bbba", "b-b");
        x.loan(0, 0, 0, 1);
        for (int ear = 0; ear <= 12; ear++) {
            x.ear(ear);
            due("while it is " + ear, x.loses(0), 0);
        }
    }

    @Says("LOSES: by how much INTEREST behind YEAR 39 is less by a told EAR (0 to 12) than by an EAR of 0.")
    static void theEarAtTheCounterHasNoSay() {
        TuneLoans x = earnsOneUpTo(5);
        for (int ear = 0; ear <= 12; ear++) {
            x.ear(ear);
            due("ear 6 while it is " + ear, x.loses(6), 1);
            due("ear 5 while it is " + ear, x.loses(5), 0);
            due("it stays", x.count(6), ear);
            due("and so does what it knows", x.interest(39), ear <= 5 ? 1 : 0);
        }
    }

    @Says("LOSES: by how much INTEREST behind YEAR 39 is less by a told EAR (0 to 12) than by an EAR of 0.")
    static void behindYear39AndNotBefore() {
        TuneLoans x = bank("b", "b/c");
        x.loan(39, 0, 0, 1);
        due("as long as it was", x.loses(12), 0);
        TuneLoans y = bank("bba", "b-b");
        y.loan(39, 0, 0, 1);
        due("back behind year 39: two are kept", y.loses(2), -2);
        y.back();
        y.loan(39, 0, 0, 2);
        due("out behind year 39: none are", y.loses(2), 0);
    }

    @Says("BEST EAR for a told INTEREST: the greatest EAR (0 to 12) by which it is as much, or more, behind YEAR 39; NONE.")
    static void theGreatestThatEarnsAsMuch() {
        for (int many = 0; many <= 11; many++) {
            TuneLoans x = earnsOneUpTo(many);
            due("for nothing", x.best(0), 12);
            due("for one, known up to " + many, x.best(1), many);
            due("for two", x.best(2), NONE);
        }
        TuneLoans y = earnsSevenUpTo12();
        due("for six", y.best(6), 12);
        due("for seven", y.best(7), 12);
        due("for eight", y.best(8), NONE);
    }

    @Says("BEST EAR for a told INTEREST: the greatest EAR (0 to 12) by which it is as much, or more, behind YEAR 39; NONE.")
    static void aGreaterEarMayEarnMore() {
        TuneLoans x = bank("bbba;a", "b-b;a+a");
        x.loan(0, 0, 0, 1);
        x.loan(0, 1, 1, 2);
        due("by an ear of 0 nothing", x.loses(2), -3);
        due("for one", x.best(1), 12);
        due("for three", x.best(3), 12);
        due("for four", x.best(4), NONE);
    }

    @Says("BEST EAR for a told INTEREST: the greatest EAR (0 to 12) by which it is as much, or more, behind YEAR 39; NONE.")
    static void noneWhenEvenAnEarOf0EarnsLess() {
        TuneLoans x = bank("ab", "a-a");
        x.loan(39, 0, 0, 2);
        due("one less by each ear", x.best(0), NONE);
        x.back();
        due("as much as nothing", x.best(0), 12);
        due("but not more", x.best(1), NONE);
    }

    // ---- hums

    @Says("FRACTIONS are told in lowest terms, above and below (0 by 1).")
    static void inLowestTerms() {
        TuneLoans x = bank("a", "a+b");
        chance("8 of 16", x, 8, 1, 2, 1, 2);
        chance("4 of 16", x, 4, 1, 2, 1, 4);
        chance("2 of 16", x, 2, 1, 2, 1, 8);
        chance("6 of 16", x, 6, 1, 2, 3, 8);
        chance("12 of 16", x, 12, 1, 2, 3, 4);
        chance("1 of 16", x, 1, 1, 2, 1, 16);
        chance("15 of 16", x, 15, 1, 2, 15, 16);
        chance("in both of two years", x, 6, 2, 3, 9, 64);
        chance("in one of two years or in both", x, 6, 2, 2, 39, 64);
    }

    @Says("FRACTIONS are told in lowest terms, above and below (0 by 1).")
    static void nothingIs0By1AndAllIs1By1() {
        TuneLoans x = bank("a", "a+b");
        for (int years = 1; years <= 9; years++) {
            chance("never, years " + years, x, 0, years, 2, 0, 1);
            chance("always, years " + years, x, 16, years, 1 + years, 1, 1);
            chance("too many, years " + years, x, 8, years, 2 + years, 0, 1);
            chance("as many as there are, years " + years, x, 8, years, 1, 1, 1);
        }
    }

    @Says("HUMS by chance: a TUNE as told is lent to a BORROWER for so many YEARS (1 to 9), in each of which it is HUMMED by c sixteenths (0 to 16), by itself")
    static void fromOneYearToNine() {
        TuneLoans x = bank("a", "a+b");
        long all = 1;
        for (int years = 1; years <= 9; years++) {
            all *= 16;
            chance("1 of 16 in all of " + years, x, 1, years, 1 + years, 1, all);
            chance("15 of 16 in one or more of " + years, x, 15, years, 2, all - 1, all);
        }
        due("sixteen to the ninth", all, 68719476736L);
        chance("15 of 16 in all of nine", x, 15, 9, 10, 38443359375L, 68719476736L);
        due("years 0", x.hums(1, 0, 0, 0, 1, 0), NO_LONG);
        due("years 10", x.hums(1, 0, 0, 10, 1, 0), NO_LONG);
    }

    @Says("HUMS by chance: a TUNE as told is lent to a BORROWER for so many YEARS (1 to 9), in each of which it is HUMMED by c sixteenths (0 to 16), by itself")
    static void from0To16Sixteenths() {
        TuneLoans x = bank("a", "a+b");
        for (int c = 0; c <= 16; c++) {
            int common = c == 0 ? 16 : Integer.lowestOneBit(c);
            chance("c " + c, x, c, 1, 2, c / common, 16 / common);
        }
        due("c -1", x.hums(-1, 0, 0, 1, 1, 0), NO_LONG);
        due("c 17", x.hums(17, 0, 0, 1, 1, 0), NO_LONG);
    }

    @Says("HUMS by chance: a TUNE as told is lent to a BORROWER for so many YEARS (1 to 9), in each of which it is HUMMED by c sixteenths (0 to 16), by itself")
    static void neitherLoansNorTheEarHaveASay() {
        TuneLoans x = bank("ab", "b-b");
        x.ear(12);
        x.loan(0, 0, 0, 9);
        chance("two are left", x, 4, 1, 2, 3, 4);
        chance("one is left", x, 4, 1, 1, 1, 1);
        TuneLoans y = bank("a", "a-a");
        y.ear(12);
        chance("none is left", y, 16, 1, 1, 0, 1);
    }

    @Says("the chance that it has told NOTES (1 to 40) or more then: a FRACTION.")
    static void told1To40OrMore() {
        TuneLoans x = bank("aaaabbbbbbbc", "a+a");
        chance("one", x, 8, 3, 1, 1, 1);
        chance("twelve", x, 8, 3, 12, 1, 1);
        chance("thirteen: hummed once", x, 8, 3, 13, 7, 8);
        chance("16: hummed once", x, 8, 3, 16, 7, 8);
        chance("17: hummed twice", x, 8, 3, 17, 1, 2);
        chance("24: hummed twice", x, 8, 3, 24, 1, 2);
        chance("25: three times", x, 8, 3, 25, 1, 8);
        chance("forty: three times", x, 8, 3, 40, 1, 8);
        due("notes 0", x.hums(8, 0, 0, 3, 0, 0), NO_LONG);
        due("notes 41", x.hums(8, 0, 0, 3, 41, 0), NO_LONG);
    }

    @Says("the chance that it has told NOTES (1 to 40) or more then: a FRACTION.")
    static void fortyAreAllThatThereCanBe() {
        TuneLoans x = bank("aaaaaaaaaaaa", "a+a");
        chance("48 would come by two", x, 8, 2, 40, 1, 4);
        chance("39 of them", x, 8, 2, 39, 1, 4);
        chance("by one 24", x, 8, 2, 24, 3, 4);
        chance("no 25 by one", x, 8, 1, 25, 0, 1);
    }

    // ---- lots, fair

    @Says("LOTS of m: SEED becomes 1103515245 SEED and 12345, as ints that wrap; its upper 16 bits as a number from 0 on, modulo m.")
    static void theFirstLotOfSix() {
        int[] seeds = {0, 1, -1, 7, 8, Integer.MAX_VALUE, Integer.MIN_VALUE};
        int[] upper = {0, 16838, 48697, 52332, 3634, 15929, 32768};
        for (int k = 0; k < seeds.length; k++) {
            TuneLoans x = bank(SIX, "a+b");
            for (int t = 0; t < 6; t++) {
                due("seed " + seeds[k] + ", tune " + t, x.fair(seeds[k], 1, t), upper[k] % 6 == t ? 2 : 1);
            }
        }
    }

    @Says("LOTS of m: SEED becomes 1103515245 SEED and 12345, as ints that wrap; its upper 16 bits as a number from 0 on, modulo m.")
    static void lotsUpTo65535() {
        TuneLoans x = bank("a;a;a;a;a", "a+b");
        for (int t = 0; t < 5; t++) {
            due("64831 of five, tune " + t, x.fair(lotBefore(64831), 1, t), t == 1 ? 2 : 1);
            due("65535 of five, tune " + t, x.fair(lotBefore(65535), 1, t), t == 0 ? 2 : 1);
            due("32767 of five, tune " + t, x.fair(lotBefore(32767), 1, t), t == 2 ? 2 : 1);
            due("32768 of five, tune " + t, x.fair(lotBefore(32768), 1, t), t == 3 ? 2 : 1);
        }
    }

    /** A seed of which the first lot has these upper bits: the one that the step turns into them. */
    private static int lotBefore(int upper) {
        int inverse = 1;
        for (int k = 0; k < 5; k++) inverse *= 2 - 1103515245 * inverse;
        return inverse * ((upper << 16) + 777 - 12345);
    }

    @Says("LOTS of m: SEED becomes 1103515245 SEED and 12345, as ints that wrap; its upper 16 bits as a number from 0 on, modulo m.")
    static void theLotsBehindTheFirst() {
        int[][] drawn = {{0, 0, 0, 0, 1, 4, 5}, {1, 2, 3, 3, 2, 2, 1}, {-1, 1, 4, 1, 4, 0, 5}, {7, 0, 2, 5, 0, 5, 5},
            {Integer.MAX_VALUE, 5, 0, 3, 2, 4, 1}, {Integer.MIN_VALUE, 2, 4, 2, 3, 2, 3}};
        for (int[] d : drawn) {
            TuneLoans x = bank(SIX, "a+b");
            int[] notes = {1, 1, 1, 1, 1, 1};
            for (int years = 1; years <= 6; years++) {
                notes[d[years]]++;
                for (int t = 0; t < 6; t++) {
                    due("seed " + d[0] + ", years " + years + ", tune " + t, x.fair(d[0], years, t), notes[t]);
                }
            }
        }
    }

    @Says("FAIR by a SEED: from TUNES as told, for so many YEARS (1 to 40), a LOT of TUNES, then a LOT of BORROWERS: that is HUMMED by that one")
    static void aLotOfTunesThenALotOfBorrowers() {
        int[] seeds = {1, 2147483647, 0, 3, 8, -1};
        int[] size = {11, 12, 13, 14, 16, 8};
        TuneLoans x = bank("abbcccdddddf", "g-g;a+g;b+g;c+g;d+g;c-g");
        for (int k = 0; k < 6; k++) due("borrower " + k, x.fair(seeds[k], 1, 0), size[k] + 1);
        TuneLoans y = bank("a;a", "a+b;g-g");
        due("seed 7: 52332 of two tunes, 9806 of two borrowers", y.fair(7, 1, 0), 2);
        due("seed 1: 16838 of two tunes, 38526 of two borrowers", y.fair(1, 1, 0), 2);
        due("seed 3: 50515 of two tunes, 7107 of two borrowers", y.fair(3, 1, 1), 1);
        due("seed -1: 48697 of two tunes, 4409 of two borrowers", y.fair(-1, 1, 1), 1);
    }

    @Says("FAIR by a SEED: from TUNES as told, for so many YEARS (1 to 40), a LOT of TUNES, then a LOT of BORROWERS: that is HUMMED by that one")
    static void fromOneYearTo40() {
        TuneLoans x = bank("a;a", "a+b");
        due("one", x.fair(7, 1, 0), 2);
        due("38", x.fair(7, 38, 0), 23);
        due("39", x.fair(7, 39, 0), 24);
        due("40", x.fair(7, 40, 0), 25);
        due("the other one, 40", x.fair(7, 40, 1), 17);
        due("years 0", x.fair(7, 0, 0), BAD);
        due("years 41", x.fair(7, 41, 0), BAD);
    }

    @Says("FAIR by a SEED: from TUNES as told, for so many YEARS (1 to 40), a LOT of TUNES, then a LOT of BORROWERS: that is HUMMED by that one: how many NOTES a TUNE has then.")
    static void itHas40NotesAtMostThen() {
        TuneLoans x = bank("a", "a+b");
        due("38 years", x.fair(5, 38, 0), 39);
        due("39 years", x.fair(5, 39, 0), 40);
        due("40 years", x.fair(5, 40, 0), 40);
        due("none is left", bank("a", "a-a").fair(5, 40, 0), 0);
    }

    @Says("FAIR by a SEED: from TUNES as told, for so many YEARS (1 to 40), a LOT of TUNES, then a LOT of BORROWERS: that is HUMMED by that one: how many NOTES a TUNE has then.")
    static void neitherLoansNorEarNorCallsBeforeHaveASay() {
        TuneLoans x = bank("a;a", "a+b");
        x.loan(0, 0, 0, 9);
        x.ear(12);
        for (int k = 0; k < 3; k++) due("again", x.fair(7, 40, 0), 25);
        x.fair(1, 40, 1);
        due("behind another seed", x.fair(7, 40, 0), 25);
    }

    @Says("FAIR by a SEED: from TUNES as told, for so many YEARS (1 to 40), a LOT of TUNES, then a LOT of BORROWERS: that is HUMMED by that one: how many NOTES a TUNE has then.")
    static void withoutBorrowersNobodyHums() {
        TuneLoans x = bank("a;abcdefgabcde", "");
        due("one note", x.fair(7, 40, 0), 1);
        due("twelve", x.fair(7, 40, 1), 12);
    }

    // ---- promises 25 to 28

    @Says(promise = 25, value = "LOSES, as any number.")
    static void losesMayBeMinusTwo() {
        for (int fewer = 1; fewer <= 5; fewer++) {
            TuneLoans x = bank("b".repeat(fewer) + "a", "b-b");
            x.loan(0, 0, 0, 1);
            due(fewer + " kept", x.loses(2), -fewer);
        }
    }

    @Says(promise = 25, value = "BAD: -1002.")
    static void losesOfNoSuchEar() {
        TuneLoans x = new TuneLoans();
        due("ear -1", x.loses(-1), NO_NUMBER);
        due("ear 13", x.loses(13), NO_NUMBER);
        due("ear 0", x.loses(0), 0);
        due("ear 12", x.loses(12), 0);
        for (int far : FAR_OUT) due("ear far out", x.loses(far), NO_NUMBER);
    }

    @Says(promise = 26, value = "BEST EAR for an INTEREST (0 to 240); NONE.")
    static void bestForUpTo240() {
        TuneLoans x = bank(SIX, "a+a");
        for (int t = 0; t < 6; t++) x.loan(0, t, 0, 9);
        due("for 0", x.best(0), 12);
        due("for all that there is", x.best(234), 12);
        due("for one more", x.best(235), NONE);
        due("for 240", x.best(240), NONE);
        due("for 0 without tunes", new TuneLoans().best(0), 12);
    }

    @Says(promise = 26, value = "BAD.")
    static void bestForNoSuchInterest() {
        TuneLoans x = bank("a", "a+a");
        due("-1", x.best(-1), BAD);
        due("241", x.best(241), BAD);
        for (int far : FAR_OUT) due("far out", x.best(far), BAD);
    }

    @Says(promise = 27, value = "HUMS: above, below. BAD. (As the least long.)")
    static void aboveIs0AndBelowIs1() {
        TuneLoans x = bank("a", "a+b");
        due("above", x.hums(6, 0, 0, 1, 2, 0), 3);
        due("below", x.hums(6, 0, 0, 1, 2, 1), 8);
        due("what -1", x.hums(6, 0, 0, 1, 2, -1), NO_LONG);
        due("what 2", x.hums(6, 0, 0, 1, 2, 2), NO_LONG);
        for (int far : FAR_OUT) due("what far out", x.hums(6, 0, 0, 1, 2, far), NO_LONG);
    }

    @Says(promise = 27, value = "HUMS: above, below. BAD. (As the least long.)")
    static void humsOfNoSuchThing() {
        TuneLoans x = bank(SIX, "a+b;a+b;a+b;a+b;a+b;b-b");
        for (int none : new int[] {-1, 6, Integer.MIN_VALUE, Integer.MAX_VALUE}) {
            due("tune " + none, x.hums(1, none, 0, 1, 1, 0), NO_LONG);
            due("borrower " + none, x.hums(1, 0, none, 1, 1, 0), NO_LONG);
        }
        for (int far : FAR_OUT) {
            due("c far out", x.hums(far, 0, 0, 1, 1, 0), NO_LONG);
            due("years far out", x.hums(1, 0, 0, far, 1, 0), NO_LONG);
            due("notes far out", x.hums(1, 0, 0, 1, far, 0), NO_LONG);
        }
        due("the last of both", x.hums(1, 5, 5, 9, 40, 1), 1);
        due("tune 1 of one", bank("a", "a+b").hums(1, 1, 0, 1, 1, 0), NO_LONG);
        due("borrower 1 of one", bank("a", "a+b").hums(1, 0, 1, 1, 1, 0), NO_LONG);
        due("no borrowers", bank("a", "").hums(1, 0, 0, 1, 1, 0), NO_LONG);
        due("no tunes", bank("", "a+b").hums(1, 0, 0, 1, 1, 0), NO_LONG);
        due("that is", NO_LONG, -9223372036854775806L);
    }

    @Says(promise = 28, value = "FAIR. BAD.")
    static void fairOfNoSuchThing() {
        TuneLoans x = bank(SIX, "a+b");
        for (int none : new int[] {-1, 6, Integer.MIN_VALUE, Integer.MAX_VALUE}) {
            due("tune " + none, x.fair(7, 1, none), BAD);
        }
        for (int years : new int[] {0, 41, -1, Integer.MIN_VALUE, Integer.MAX_VALUE}) {
            due("years " + years, x.fair(7, years, 0), BAD);
        }
        due("tune 5 of six", x.fair(7, 2, 5), 1);
        due("tune 1 of one", bank("a", "a+b").fair(7, 1, 1), BAD);
        due("no tunes", bank("", "a+b").fair(7, 1, 0), BAD);
    }

    @Says(promise = 28, value = "FAIR. BAD.")
    static void anySeedIsWell() {
        TuneLoans x = bank("a", "a+b");
        for (int seed : new int[] {0, -1, 1, Integer.MIN_VALUE, Integer.MAX_VALUE}) {
            due("seed " + seed, x.fair(seed, 1, 0), 2);
        }
    }
}
