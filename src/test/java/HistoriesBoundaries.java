/** The boundary cases of promises 30 to 36: engravings, histories, odds, the oldest. */
public final class HistoriesBoundaries {
    private static final String KINDS = "town \"g32 sabcd xbcda1h fcdab hdabc cabcd3 ubcda\"\n";
    private static final String PLAIN = "town \"g32 sabcd sabce sabcf sabcg sabch sabcd\"\nrule 0: 3 4 5\nrule 1: 6 7 3\n";
    /** Two choices each year; law 0 stands if stone 0 has no quarters, law 1 always, law 2 never. */
    private static final String ONE = "town \"g21 sabcd fefgh\"\nrule 0: 0 4\nrule 1: 4\nrule 2: 7 7\n"
        + "lays 0: 0 4\nlays 1: 1 4\nlays 2: 2 4\n";

    public static void main(String[] args) {
        engraveNumbers();
        engraveFull();
        lose();
        historyNumbers();
        historiesByYears();
        historiesByWords();
        whenNumbers();
        when();
        turnedNumbers();
        turned();
        oddsNumbers();
        odds();
        livesNumbers();
        lives();
        Script.end();
    }

    private static void engraveNumbers() {
        Script.run(30, "row 0 1\nengrave 0 {0,1} 0 0 = BAD\n" + KINDS + """
            lays 0: 0 1 2
            lays 5: -1 7
            row 1 0
            engrave {-1,10,MIN,MAX} 0 0 0 = BAD
            engrave 0 {-1,5,MIN,MAX} 0 0 = BAD
            engrave 0 0 {-1,2,MIN,MAX} 0 = BAD
            engrave 0 0 0 {-1,6,MIN,MAX} = BAD
            # BAD, then NOTHING, then SIZE, then UNLIKE
            engrave 10 0 0 2 = BAD
            engrave 0 5 0 2 = BAD
            engrave 0 0 2 2 = BAD
            engrave {0,9} {0,4} {0,1} 2 = NOTHING
            engrave 0 0 0 {1,5} = SIZE
            engrave 0 {2,4} 0 {0,1} = SIZE
            lays 1: 4x8
            engrave 0 0 0 1 = SIZE
            engrave 0 2 0 1 = SIZE
            """);
        Script.run(30, KINDS + """
            lays 1: 0 0 8
            engrave 0 0 0 1 = UNLIKE
            lays 1: -2 0 0
            engrave 0 0 0 1 = UNLIKE
            lays 1: 0 MAX 0
            engrave 0 1 1 1 = UNLIKE
            lays 1: 0 MIN 0
            engrave 0 1 1 1 = UNLIKE
            lays 1: NONE 8
            engrave 9 4 1 1 = UNLIKE
            count 5 = 0
            lays 1: 7 -1 0
            engrave 0 0 0 1 = 0
            lays 5: -1 7
            engrave 9 4 1 5 = 1
            count 5 = 2
            # the ROW may go on without it
            lays 1: 8 8 8
            histories 9 = NOUGHT
            lose 0 = 2
            town "g11 sabcd"
            lays 0: 0
            engrave 0 0 0 0 = 0
            engrave 0 1 1 0 = 1
            engrave 0 2 0 0 = BAD
            """);
    }

    private static void engraveFull() {
        Script.run(30, ONE + """
            engrave 0 0 0 0 = 0
            lays 0: 6 2
            engrave 9 0 1 0 = 1
            lays 0: -1
            engrave 5 1 0 0 = 2
            engrave 5 2 1 0 = 3
            count 5 = 4
            engrave 5 2 1 0 = FULL
            engrave 0 1 0 0 = FULL
            # FULL comes last
            engrave 10 1 0 0 = BAD
            engrave 0 3 0 0 = BAD
            engrave 0 1 2 0 = BAD
            engrave 0 1 0 6 = BAD
            engrave 0 1 0 4 = NOTHING
            engrave 0 0 0 0 = SIZE
            lays 0: 8
            engrave 0 1 0 0 = UNLIKE
            lays 0: -1
            lose 3 = 1
            engrave 0 1 0 0 = 3
            engrave 0 1 0 0 = FULL
            lose 0 = 4
            engrave 0 1 0 0 = 0
            """);
    }

    private static void lose() {
        Script.run(31, """
            lose {-1,1,4,MIN,MAX} = BAD
            lose 0 = 0
            """);
        Script.run(31, ONE + """
            lose {-1,1,MIN,MAX} = BAD
            lose 0 = 0
            engrave 0 0 0 0
            lose {-1,2} = BAD
            lose 1 = 0
            engrave 1 0 0 1
            engrave 2 0 0 2
            engrave 3 0 0 2
            lose {-1,5,MIN,MAX} = BAD
            lose 4 = 0
            count 5 = 4
            histories 3 = 1 told 1 1
            lose 2 = 2
            count 5 = 2
            lose 3 = BAD
            histories 3 = 1 told 4 1
            engrave 2 0 0 1 = 2
            histories 3 = 1 told 2 1
            lose 0 = 3
            count 5 = 0
            lose {-1,1,3} = BAD
            lose 0 = 0
            histories 3 = 1 told 8 1
            """);
    }

    private static void historyNumbers() {
        Script.run(32, """
            histories {-1,10,MIN,MAX} = BAD
            histories {0,9} = 1 told 1 1
            """);
        Script.run(32, PLAIN + """
            histories {-1,10,MIN,MAX} = BAD
            histories 0 = 1 told 1 1
            histories 1 = 1 told 7 1
            histories 9 = 1 told 40353607 1
            turn 0
            histories 9 = 1 told 40353607 1
            town "g31 fabcd uabcd fabcd"
            histories {0,1,9} = 1 told 1 1
            town "g31 habcd cabcd0 xabcd0a"
            histories 9 = 1 told 262144 1
            """);
    }

    private static void historiesByYears() {
        Script.run(32, ONE + """
            histories 9 = 1 told 512 1
            # an ENGRAVING of YEAR 9: of YEARS 0 to n alone
            engrave 9 0 0 1
            histories 8 = 1 told 256 1
            histories 9 = 1 told 136 1
            lose 0
            # TURNS modulo 4
            engrave 4 0 0 0
            histories 3 = 1 told 8 1
            histories 4 = 1 told 2 1
            histories 5 = 1 told 4 1
            histories 9 = 1 told 64 1
            engrave 8 0 0 0
            histories 7 = 1 told 16 1
            histories 8 = 1 told 4 1
            histories 9 = 1 told 8 1
            engrave 6 0 0 2
            histories 9 = 1 told 4 1
            # two of one YEAR that do not fit
            engrave 5 0 0 2
            histories 4 = 1 told 2 1
            histories {5,6,9} = NOUGHT
            """);
        Script.run(32, ONE + """
            # YEAR 0 is ahead of all TURNS
            engrave 0 0 0 0
            histories 0 = 1 told 1 1
            histories 9 = 1 told 512 1
            engrave 0 0 0 1
            histories {0,1,9} = NOUGHT
            lose 1
            # from all QUARTERS 0, not from as it is
            turn 0
            keep 0
            histories 0 = 1 told 1 1
            engrave 1 0 0 2
            histories 0 = 1 told 1 1
            histories {1,9} = NOUGHT
            on 0
            histories 1 = NOUGHT
            """);
    }

    private static void historiesByWords() {
        Script.run(32, """
            town "g31 cabcd0 uabcd xabcd0h"
            lays 0: -1 -1 0
            engrave 0 0 0 0
            histories 0 = 1 told 1 1
            lose 0
            # a WORN SIDE as it was laid, GAPS where there is no WORD, and there alone
            lays 0: -1 -1 7
            engrave 0 0 0 0
            histories 0 = NOUGHT
            lose 0
            lays 0: 0 -1 0
            engrave 0 0 0 0
            histories 0 = NOUGHT
            lose 0
            lays 0: -1 0 0
            engrave 0 0 0 0
            histories 0 = NOUGHT
            lose 0
            lays 0: -1 -1 -1
            engrave 0 0 0 0
            histories 0 = NOUGHT
            lose 0
            # from the other END, and in a column
            lays 0: 2 -1 2
            engrave 0 0 1 0
            lays 0: -1
            engrave 0 2 0 0
            lays 0: 3
            engrave 0 3 1 0
            histories 0 = 1 told 1 1
            lays 0: 1
            engrave 1 1 1 0
            histories 1 = NOUGHT
            histories 0 = 1 told 1 1
            """);
        Script.run(32, """
            # a HALF one has its QUARTERS 0, 2; in a column from below
            town "g12 habcd fefgh"
            lays 0: 7 1
            engrave 1 2 1 0
            histories 1 = 1 told 1 1
            histories 2 = 1 told 2 1
            lose 0
            lays 0: 7 0
            engrave 1 2 1 0
            histories 1 = NOUGHT
            histories 0 = 1 told 1 1
            """);
    }

    private static void whenNumbers() {
        Script.run(33, """
            when {-1,10,MIN,MAX} 0 = BAD
            when 0 {-1,4,MIN,MAX} = BAD
            when 10 4 = BAD
            when {0,9} {0,3} = NOTHING
            # without STONES
            rule 0: 0
            when {0,9} 0 = 0 asked 0
            """);
        Script.run(33, ONE + """
            when {-1,10} 0 = BAD
            when 9 {-1,4} = BAD
            when 9 3 = NOTHING
            when 0 0 = 1 asked 1
            engrave 0 0 0 1
            # BAD, then NOTHING, then NOUGHT
            when 10 3 = BAD
            when {0,9} 3 = NOTHING
            when {0,9} {0,1,2} = NOUGHT
            """);
    }

    private static void when() {
        Script.run(33, ONE + """
            when 0 1 = 1 asked 1
            when 0 2 = 0 asked 0
            when 9 1 = 1023 asked 1023
            when 9 2 = 0 asked 0
            when 9 0 = 1 asked 1023
            engrave 4 0 0 0
            when 3 0 = 1 asked 15
            when 4 0 = 17 asked 31
            engrave 1 0 0 1
            when 1 0 = 1 asked 1
            when 4 0 = 17 asked 17
            when 5 0 = 17 asked 49
            when 9 0 = 17 asked 1009
            when 9 1 = 1023 asked 1023
            # PERHAPS is not enough
            town "g21 xabcd0h fefgh"
            rule 0: 7 4
            when 9 0 = 0 asked 0
            """);
        Script.run(33, ONE + """
            # known of the last YEAR, and what follows for those ahead
            lays 4: 3 4
            engrave 9 0 0 0
            engrave 6 0 0 4
            engrave 3 0 0 4
            when 9 0 = 513 asked 897
            when 3 0 = 1 asked 1
            """);
        Script.run(33, PLAIN + """
            # a YEAR has one TURN: nine are due
            when 8 0 = 0 asked 0
            when 9 0 = 0 asked 512
            town "g21 sabcd sabcd"
            rule 0: 1 1
            rule 1: 2 1
            when 1 0 = 0 asked 0
            when 2 0 = 0 asked 4
            when 2 1 = 0 asked 0
            when 3 1 = 0 asked 8
            lays 0: 1 1
            engrave 2 0 0 0
            when 2 0 = 4 asked 4
            when 3 0 = 4 asked 12
            """);
    }

    private static void turnedNumbers() {
        Script.run(34, """
            turned {-1,10,MIN,MAX} 1 = BAD
            turned 9 {-1,0,10,MIN,MAX} = BAD
            turned 0 {-1,0,1} = BAD
            # without STONES
            turned 1 1 = 0 asked 1
            turned 9 {1,9} = 0 asked 1
            """);
        Script.run(34, ONE + """
            turned {-1,10} 1 = BAD
            turned 5 {0,6,MIN,MAX} = BAD
            turned 0 {0,1} = BAD
            turned 1 1 = 1 asked 1
            turned 9 {1,9} = 1 asked 1
            engrave 0 0 0 1
            # BAD comes ahead of NOUGHT
            turned 9 {0,10} = BAD
            turned 10 1 = BAD
            turned 9 {1,9} = NOUGHT
            turned 1 1 = NOUGHT
            """);
    }

    private static void turned() {
        Script.run(34, PLAIN + """
            turned {1,9} 1 = 63 asked 1
            turned 9 9 = 63 asked 1
            town "g31 fabcd uabcd fabcd"
            turned 9 {1,9} = 0 asked 1
            town "g32 uabcd habcd fabcd cabcd0 xabcd0a sabcd"
            turned 9 9 = 58 asked 1
            """);
        Script.run(34, ONE + """
            # four TURNS or none
            engrave 4 0 0 0
            turned 4 {1,2,3,4} = 1 asked 1
            # a TURN in YEAR 1, and so in all
            engrave 1 0 0 1
            turned 4 {1,2,3,4} = 1 asked 0
            turned 3 1 = 1 asked 0
            turned 3 {2,3} = 1 asked 1
            turned 5 5 = 1 asked 1
            lose 1
            # none in YEAR 1, and so in none
            engrave 1 0 0 0
            turned 4 {1,2,3,4} = 0 asked 1
            turned 9 9 = 1 asked 1
            """);
        Script.run(34, """
            # two STONES, each in one of two YEARS, then either, or none
            town "g21 sabcd sabcd"
            lays 0: 1 1
            engrave 2 0 0 0
            turned 2 {1,2} = 3 asked 0
            turned 3 3 = 3 asked 1
            turned 1 1 = 3 asked 1
            lays 0: 1 0
            engrave 1 0 0 0
            turned 2 1 = 1 asked 0
            turned 2 2 = 2 asked 0
            lose 0
            lays 0: 0 1
            engrave 9 0 0 0
            turned 9 {1,9} = 3 asked 1
            """);
    }

    private static void oddsNumbers() {
        Script.run(35, """
            odds {-1,10,MIN,MAX} 0 0 = BAD
            odds 9 {-1,10,MIN,MAX} 0 = BAD
            odds 9 0 {-1,4,MIN,MAX} = BAD
            odds 5 6 0 = BAD
            odds 0 1 0 = BAD
            odds {0,9} 0 {0,3} = NOTHING
            # without STONES
            rule 0: 0
            odds 9 9 0 = 1 told 0 1
            odds 0 0 0 = 1 told 0 1
            """);
        Script.run(35, ONE + """
            odds 9 {-1,10} 0 = BAD
            odds 10 10 0 = BAD
            odds 9 9 4 = BAD
            odds 9 9 3 = NOTHING
            odds 0 0 0 = 1 told 1 1
            engrave 0 0 0 1
            # BAD, then NOTHING, then NOUGHT
            odds 0 1 3 = BAD
            odds 9 {0,9} 3 = NOTHING
            odds 9 {0,9} 0 = NOUGHT
            odds 0 0 1 = NOUGHT
            """);
    }

    private static void odds() {
        Script.run(35, ONE + """
            odds 9 0 0 = 1 told 1 1
            odds 1 1 0 = 1 told 1 2
            odds 9 1 0 = 1 told 1 2
            odds 2 2 0 = 1 told 1 4
            odds 4 4 0 = 1 told 1 8
            odds 9 9 0 = 1 told 17 64
            odds 9 9 1 = 1 told 1 1
            # 0 by 1
            odds 9 {0,5,9} 2 = 1 told 0 1
            engrave 4 0 0 0
            odds 4 {0,4} 0 = 1 told 1 1
            odds 4 {1,2,3} 0 = 1 told 1 2
            odds 9 {1,2,3} 0 = 1 told 1 2
            odds 3 3 0 = 1 told 1 8
            odds 5 5 0 = 1 told 1 2
            """);
        Script.run(35, PLAIN + """
            # 1680 of 40353607
            odds 9 9 0 = 1 told 240 5764801
            odds 9 8 0 = 1 told 0 1
            odds 9 9 1 = 1 told 240 5764801
            odds 9 0 0 = 1 told 0 1
            """);
    }

    private static void livesNumbers() {
        Script.run(36, """
            lives {-1,16,MIN,MAX} 1 = BAD
            lives 0 {0,-1,13,MIN,MAX} = BAD
            # without STONES
            lives 0 {1,12} = 0 told 1 1
            lives {1,15} {1,12} = NONE
            lives 15 {0,13} = BAD
            """);
        Script.run(36, ONE + """
            lives {-1,16} 5 = BAD
            lives {1,4,15} {0,13} = BAD
            lives {4,5,8,15} {1,12} = NONE
            lives {0,1,3} {1,12} = 0 told 1 1
            turn 0
            lives 1 12 = 3 told 1 1
            lives 1 1 = 3 told 1 1728
            lives 3 8 = 3 told 8 27
            turn 0
            lives 1 6 = 2 told 1 4
            turn 0
            lives 1 7 = 1 told 7 12
            lives 1 9 = 1 told 3 4
            """);
    }

    private static void lives() {
        Script.run(36, PLAIN + """
            # 18 YEARS are too many, whatever p is; BAD comes ahead of SPENT
            years 3 = 18 asked 4095
            lives 3 {1,5,12} = SPENT
            lives 3 {0,13} = BAD
            lives 19 5 = BAD
            lives 7 5 = NONE
            lives 1 6 = 9 told 1 512
            turn 5
            lives 3 1 = 17 told 1 2218611106740436992
            lives 3 11 = 17 told 505447028499293771 2218611106740436992
            lives 3 10 = 17 told 762939453125 16926659444736
            lives 3 9 = 17 told 129140163 17179869184
            lives 3 8 = 17 told 131072 129140163
            lives 3 6 = 17 told 1 131072
            lives 3 12 = 17 told 1 1
            # the way from as it is
            again 3 turn 5
            lives 3 1 = SPENT
            """);
    }
}
