/** The boundary cases of promises 23 to 29: the least years, ways, losses, shares, mending, contests. */
public final class WantsBoundaries {
    /** Law 0 needs nine turns of the stones above, law 1 nine of those below, law 2 none. */
    private static final String EIGHTEEN = "town \"g32 sabcd sabce sabcf sabcg sabch sabcd\"\n"
        + "rule 0: 3 4 5\nrule 1: 6 7 3\nrule 2: 0\n";
    /** Law 0 stands if stone 0 has no quarters, and else never. */
    private static final String ONE_OF_FOUR = "town \"g21 sabcd fefgh\"\nrule 0: 0 4\n";

    public static void main(String[] args) {
        yearNumbers();
        yearsFar();
        yearsAround();
        yearsTied();
        way();
        waysOfNone();
        lost();
        shareNumbers();
        shares();
        together();
        mendNumbers();
        mendFirst();
        mendKinds();
        contestNumbers();
        contests();
        contestsLong();
        Script.end();
    }

    private static void yearNumbers() {
        Script.run(23, """
            # without STONES
            years {-1,16,MIN,MAX} = BAD
            years 0 = 0 asked 0
            years {1,8,15} = NONE
            rule 0: 0
            years 1 = NONE
            town "g11 sabcd"
            years {-1,16,MIN,MAX} = BAD
            years 0 = 0 asked 0
            years 1 = 0 asked 0
            # missing ones: never
            years {2,3,4,8,9,15} = NONE
            rule 1: 1
            rule 2: 2
            rule 3: 3
            years {1,2,3,4,7,8,14,15} = 0 asked 0
            # one that is longer than each STREET
            rule 3: 3 3
            years {8,15} = NONE
            years 7 = 0 asked 0
            """);
    }

    private static void yearsFar() {
        Script.run(23, EIGHTEEN + """
            years 1 = 9 asked 63
            years 2 = 9 asked 4032
            years 3 = 18 asked 4095
            years 4 = 0 asked 0
            years 7 = 18 asked 4095
            years {8,11,15} = NONE
            # from as it is
            again 3 turn 5
            years 3 = 15 asked 4095
            years 0 = 0 asked 3072
            again 3 turn {0,1,2,3,4}
            years {1,2,3,7} = 0 asked 4095
            turn 0
            years 3 = 3 asked 4095
            """);
        Script.run(23, ONE_OF_FOUR + """
            # YEARS behind 999 are told, too
            rule 1: 7 7
            row 0 60
            again 16 till 0 1
            row 0 37
            till 0 1
            lays 0: NONE NONE
            till 0 1
            state = 1 asked 999
            years 1 = 3 asked 0
            """);
    }

    private static void yearsAround() {
        Script.run(23, ONE_OF_FOUR + """
            years 1 = 0 asked 0
            turn 0
            years 1 = 3 asked 0
            turn 0
            years 1 = 2 asked 0
            turn 0
            years 1 = 1 asked 0
            turn 0
            years 1 = 0 asked 0
            # a HALF one is turned by two quarters at once, a FIXED one never
            town "g21 habcd fefgh"
            rule 1: 2 4
            rule 2: 1 4
            years 2 = 1 asked 2
            years 4 = NONE
            turn 0
            years 1 = 1 asked 0
            town "g21 fabcd fefgh"
            years 1 = 0 asked 0
            years {2,3,4} = NONE
            # PERHAPS is not enough, nor is a GAP a WORD
            town "g21 xabcd0c fefgh"
            years 2 = 2 asked 2
            town "g21 xabbb0c fefgh"
            years 2 = NONE
            town "g21 cabcd0 fefgh"
            years 1 = NONE
            town "g21 uabcd fefgh"
            years 1 = NONE
            """);
    }

    private static void yearsTied() {
        Script.run(23, """
            # the least YEARS, then the least STATE
            town "g21 sabab sabab"
            rule 0: 0 1
            years 1 = 1 asked 1
            again 3 turn 0
            years 1 = 0 asked 3
            town "g31 sabbb sabbb sabbb"
            rule 0: 1 1
            years 1 = 0 asked 0
            rule 0: 0 1
            years 1 = 1 asked 4
            """);
    }

    private static void way() {
        Script.run(24, EIGHTEEN + """
            way {-1,16,MIN,MAX} 0 = BAD
            way 1 {-1,6,MIN,MAX} = BAD
            way 16 6 = BAD
            # BAD also where it is never
            way 8 {-1,6} = BAD
            way 3 0 = 18 holds 0: 3x0 3x1 3x2 3x3 3x4 3x5
            way 1 5 = 9 holds 5: 3x0 3x1 3x2
            row 5 60
            way 2 5 = 9 holds 5: 3x3 3x4 3x5
            # no TURNS, anew
            way 0 5 = 0 holds 5:
            way 4 0 = 0 holds 0:
            again 2 turn 4
            turn 1
            way 3 0 = 15 holds 0: 3x0 2x1 3x2 3x3 4 3x5
            count 6 = 2
            """);
        Script.run(24, """
            # a HALF one has one TURN
            town "g31 fabcd hefgh sabcd"
            rule 0: 0 6 3
            way 1 0 = 4 holds 0: 1 3x2
            turn 1
            way 1 0 = 3 holds 0: 3x2
            again 4 turn 2
            way 1 0 = 3 holds 0: 3x2
            till 0 0 = 3
            way 1 0 = 0 holds 0:
            """);
    }

    private static void waysOfNone() {
        Script.run(24, ONE_OF_FOUR + """
            rule 1: 7 7
            lays 0: 5 6
            way {2,3,4,15} 0 = NONE
            count 6 = 1 holds 0: 5 6
            # a missing ROW stays missing
            way 2 4 = NONE
            tear 4 = NOTHING
            # nor is it laid by an older way
            turn 0
            way 1 3 = 3 holds 3: 3x0
            way 2 0 = NONE holds 0: 5 6
            way 2 3 = NONE holds 3: 3x0
            """);
        Script.run(24, """
            # without STONES
            way 0 3 = 0 holds 3:
            way {1,15} 3 = NONE
            way {-1,16} 3 = BAD
            """);
    }

    private static void lost() {
        Script.run(25, """
            lost {-1,16,MIN,MAX} = BAD
            lost 0 = 0 asked 0
            lost {1,15} = NONE
            town "g21 sabcd saaaa"
            rule 0: 2 0
            rule 1: 0 0
            rule 2: 0
            rule 3: 7
            lost {-1,16} = BAD
            lost {8,15} = NONE
            # lost between, back at the end; one that stands at the end alone is not lost
            lost 1 = 0 asked 4
            lost 0 = 0 asked 6
            lost 2 = 0 asked 6
            rule 0: 1 0
            lost 1 = 2 asked 4
            state = 0 asked 0
            # no way: all that stand
            turn 0
            lost 1 = 0 asked 5
            """);
        Script.run(25, """
            town "g21 sabcd fefgh"
            rule 0: 0 4
            rule 1: 6 2
            rule 2: 0 4
            rule 3: 2 4
            lost 8 = 7 asked 0
            lost 7 = 0 asked 7
            lost {9,15} = NONE
            # all four at once
            rule 3: 4
            lost 15 = 0 asked 15
            turn 0
            lost 15 = 0 asked 8
            """);
    }

    private static void shareNumbers() {
        Script.run(26, """
            share {0,1,15} = STATE
            share {-1,16,MIN,MAX} = BAD
            town "g11 fabcd"
            share {-1,16,MIN,MAX} = BAD
            share 0 = 1 told 1 1
            # 0 by 1
            share {1,15} = 0 told 0 1
            rule 0: 0
            share 1 = 1 told 1 1
            share 3 = 0 told 0 1
            """);
    }

    private static void shares() {
        Script.run(26, EIGHTEEN + """
            share 0 = 4096 told 1 1
            share 1 = 64 told 1 64
            share 3 = 1 told 1 4096
            share {8,15} = 0 told 0 1
            # whatever it is now
            again 2 turn 3
            share 3 = 1 told 1 4096
            share 0 = 4096 told 1 1
            """);
        Script.run(26, """
            # in lowest terms; FIXED ones have one, HALF ones two QUARTERS
            town "g31 sabcd habcd fabcd"
            rule 0: 0 0
            rule 1: 0 0 0
            rule 2: 2 0
            share 0 = 8 told 1 1
            share 1 = 5 told 5 8
            share 2 = 1 told 1 8
            share 3 = 1 told 1 8
            share 4 = 5 told 5 8
            town "g11 habcd"
            share 0 = 2 told 1 1
            """);
    }

    private static void together() {
        Script.run(27, """
            together = 0 asked 0
            rule 0: 0
            together = 0 asked 0
            town "g11 sabcd"
            together = 1 asked 1
            rule 1: 1
            rule 2: 2
            rule 3: 3
            together = 4 asked 15
            rule 0: 7
            together = 3 asked 14
            town "g11 seeee"
            together = 0 asked 0
            # PERHAPS is not enough
            town "g11 xeeee0h"
            together = 0 asked 0
            """);
        Script.run(27, """
            # the least bits of those that are as many
            town "g21 sabcd fefgh"
            rule 1: 0 4
            rule 2: 1 4
            together = 1 asked 2
            rule 0: 2 4
            together = 1 asked 1
            rule 3: 6 2
            together = 2 asked 10
            rule 2: 6 0
            together = 2 asked 5
            rule 1: 1 4
            rule 2: 6 3
            rule 0: 0 4
            rule 3: 6 2
            together = 2 asked 6
            turn 0
            together = 2 asked 6
            """);
    }

    private static void mendNumbers() {
        Script.run(28, """
            mend {-1,4,MIN,MAX} = BAD
            mend {0,3} = NOTHING
            # without STONES
            rule 0: 0
            mend 0 = NONE
            town "g11 sabcd"
            mend {-1,4} = BAD
            mend {1,2,3} = NOTHING
            mend 0 = STATE
            rule 3: 3
            mend 3 = STATE
            # longer than each STREET
            rule 3: 0 0
            mend 3 = NONE
            # it can be had, but not as it is: STATE
            town "g21 sabcd fefgh"
            rule 1: 2 4
            mend 1 = STATE
            rule 2: 7 0
            mend 2 = 127 asked 2
            rule 2: 0 0
            mend 2 = 100 asked 0
            rule 2: 7 0 0
            mend 2 = NONE
            # two new WORDS would be needed
            town "g21 fbbbb fbbbb"
            rule 2: 0 2
            mend 2 = NONE
            """);
    }

    private static void mendFirst() {
        Script.run(28, """
            # the least and the greatest answer
            town "g11 sbbbb"
            rule 0: 0
            mend 0 = 0 asked 0
            rule 0: 7
            mend 0 = 7 asked 0
            town "g32 uaaaa uaaaa fbbba uaaaa uaaaa fbbbb"
            rule 0: 7 0
            mend 0 = 537 asked 0
            # the WORDS stay as they are
            stone 5 5 = 1 asked 1
            mend 0 = 537 asked 0
            years 1 = NONE
            """);
        Script.run(28, """
            # by STONES, then SIDES, then WORDS; the least YEARS then
            town "g21 saaaa sabcd"
            rule 0: 1 1
            mend 0 = 1 asked 1
            rule 0: 4 3
            mend 0 = 4 asked 3
            turn 0
            mend 0 = 4 asked 6
            again 3 turn 1
            mend 0 = 4 asked 3
            again 3 turn 0
            mend 0 = 4 asked 0
            state = 12 asked 7
            """);
    }

    private static void mendKinds() {
        Script.run(28, """
            rule 0: 7
            town "g11 uabcd"
            mend 0 = NONE
            town "g21 uabcd uabcd"
            mend 0 = NONE
            town "g21 uabcd fabcd"
            mend 0 = 107 asked 0
            # not the SIDE of a WORN, a CUT one
            town "g11 xabcd0b"
            mend 0 = 17 asked 0
            town "g11 cabcd0"
            mend 0 = 17 asked 0
            town "g11 xabcd3h"
            mend 0 = 7 asked 0
            town "g11 habcd"
            mend 0 = 7 asked 0
            # the GAP of a CUT SIDE stays
            rule 0: 7 1
            town "g21 cbbbb0 fbbbb"
            mend 0 = 17 asked 1
            town "g21 fbbbb cbbbb0"
            mend 0 = 7 asked 1
            stone 1 2 = 1 asked -1
            """);
        Script.run(28, """
            # a FIXED one's SIDE is read from one END of one STREET
            town "g21 fbbbb faaaa"
            rule 0: 7 0
            mend 0 = 7 asked 0
            rule 0: 0 7
            mend 0 = 27 asked 0
            # a HALF one's SIDES 1 and 3 are never read in its row
            town "g21 hbbbb faaaa"
            rule 0: 7 0
            mend 0 = 7 asked 0
            turn 0
            mend 0 = 7 asked 1
            town "g31 xbbbb2b hbbbb uaaaa"
            rule 0: 1 7
            mend 0 = 7 asked 2
            rule 0: 7 7
            mend 0 = NONE
            """);
    }

    private static void contestNumbers() {
        Script.run(29, """
            contest {-1,4,MIN,MAX} 0 = BAD
            contest 0 {-1,13,MIN,MAX} = BAD
            contest 4 13 = BAD
            contest {0,3} {0,12} = NOTHING
            # without STONES
            rule 0: 0
            contest 0 {0,1,12} = 0 asked NONE
            contest 0 {-1,13} = BAD
            contest 3 13 = BAD
            contest 3 12 = NOTHING
            town "g11 sabcd"
            rule 3: 7
            contest 0 0 = 1 asked NONE
            contest 0 {1,2,11,12} = 1 asked 0
            contest 3 {0,1,12} = 0 asked NONE
            contest {-1,4} 1 = BAD
            """);
    }

    private static void contests() {
        Script.run(29, ONE_OF_FOUR + """
            contest 0 0 = 1 asked NONE
            # to let it be comes last
            contest 0 1 = 1 asked NONE
            # the other one has the last YEAR
            contest 0 2 = 0 asked NONE
            contest 0 3 = 0 asked NONE
            turn 0
            contest 0 {0,1,2,3} = 0 asked NONE
            turn 0
            contest 0 1 = 0 asked NONE
            contest 0 3 = 1 asked 0
            turn 0
            contest 0 0 = 0 asked NONE
            contest 0 1 = 1 asked 0
            contest 0 3 = 1 asked NONE
            # nothing is turned by it
            state = 3 asked 3
            """);
        Script.run(29, """
            # all FIXED: none begins
            town "g21 fabcd uabcd"
            rule 0: 0
            rule 1: 0 0
            contest 0 {0,1,2,12} = 1 asked NONE
            contest 1 {0,1,2,12} = 0 asked NONE
            # the least STONE of several, behind a FIXED one
            town "g31 fabcd saaaa saaaa"
            contest 1 {1,2,12} = 1 asked 1
            # PERHAPS is not enough
            town "g21 xbbbb0a faaaa"
            contest 1 {0,1,11} = 0 asked NONE
            """);
        Script.run(29, """
            # a HALF one is turned back at once
            town "g21 habcd fefgh"
            rule 0: 0 4
            rule 1: 2 4
            contest 0 0 = 1 asked NONE
            contest 0 1 = 1 asked NONE
            contest 0 {2,12} = 0 asked NONE
            contest 0 {3,11} = 1 asked 0
            contest 1 0 = 0 asked NONE
            contest 1 1 = 1 asked 0
            contest 1 {3,11} = 1 asked 0
            contest 1 {2,12} = 0 asked NONE
            """);
    }

    private static void contestsLong() {
        // With one stone of four quarters the first one wins, the YEARS being odd, from two of them.
        Script.run(29, ONE_OF_FOUR + """
            rule 1: 4
            contest 0 {5,11} = 0 asked NONE
            contest 0 7 = 1 asked 0
            contest 0 9 = 1 asked NONE
            contest 0 {4,6,8,10,12} = 0 asked NONE
            contest 1 12 = 1 asked 0
            turn 0
            contest 0 5 = 1 asked 0
            contest 0 7 = 1 asked NONE
            contest 0 {9,11} = 0 asked NONE
            turn 0
            contest 0 5 = 1 asked NONE
            contest 0 11 = 1 asked 0
            contest 0 {7,9,12} = 0 asked NONE
            turn 0
            contest 0 9 = 1 asked 0
            contest 0 11 = 1 asked NONE
            contest 0 {5,7,12} = 0 asked NONE
            """);
    }
}
