/** The boundary cases of promises 15 to 22: what is read, what stands, years that go by, towns kept. */
public final class YearsBoundaries {
    private static final String KINDS = "town \"g32 sabcd xbcda1h fcdab hdabc cabcd3 ubcda\"\n";
    /** A town of a stone that can be turned and a fixed one, in its year 960; law 0 never stands. */
    private static final String YEAR_960 = "town \"g21 sabcd fabcd\"\nrule 0: 7\nrule 1: 0\nrow 0 60\nagain 16 till 0 0\n";

    public static void main(String[] args) {
        readNumbers();
        readStreets();
        readTurned();
        standNumbers();
        standPlaces();
        standWorn();
        standGaps();
        laws();
        turnNumbers();
        turnsAround();
        lastYear();
        tillNumbers();
        tillOrder();
        tillYears();
        tillLastYear();
        keep();
        on();
        state();
        Script.end();
    }

    private static void readNumbers() {
        Script.run(15, "reads {0,-1} 0 0 = BAD\n" + KINDS + """
            lays 0: 9 9 9 9
            reads {-1,5,MIN,MAX} 0 0 = BAD
            reads 0 {-1,2,MIN,MAX} 0 = BAD
            reads 0 0 {-1,6,MIN,MAX} = BAD
            reads 5 2 6 = BAD holds 0: 4x9
            # anew, whatever the ROW was
            reads 0 0 0 = 3 holds 0: 0 1 2
            reads 4 1 5 = 1 holds 5: -1 1
            row 5 60
            reads 4 0 5 = 1 holds 5: 3 -1
            row 5 0
            reads 0 0 5 = 3 holds 5: 0 1 2
            count 6 = 2
            """);
        Script.run(15, """
            # the least TOWN has two STREETS
            town "g11 sabcd"
            reads 0 0 0 = 1 holds 0: 0
            reads 0 1 0 = 1 holds 0: 2
            reads 1 0 0 = 1 holds 0: 1
            reads 1 1 0 = 1 holds 0: 3
            reads 2 0 0 = BAD
            town "g12 sabcd sbcda"
            reads 0 0 0 = 1 holds 0: 0
            reads 1 1 0 = 1 holds 0: 3
            reads 2 0 0 = 2 holds 0: 1 2
            reads 2 1 0 = 2 holds 0: 0 3
            reads 3 0 0 = BAD
            town "g31 sabcd sbcda sefgh"
            reads 0 1 0 = 3 holds 0: 6 3 2
            reads 3 0 0 = 1 holds 0: 5
            reads 4 0 0 = BAD
            """);
    }

    private static void readStreets() {
        Script.run(15, KINDS + """
            reads 0 0 0 = 3 holds 0: 0 1 2
            reads 0 1 0 = 3 holds 0: 0 3 2
            # a SUNK one is a GAP, a CUT SIDE, too; a WORN SIDE is read as laid
            reads 1 0 0 = 2 holds 0: 3 0 -1
            reads 1 1 0 = 2 holds 0: -1 2 1
            reads 2 0 0 = 2 holds 0: 1 0
            reads 2 1 0 = 2 holds 0: 2 3
            reads 3 0 0 = 2 holds 0: 2 1
            reads 3 1 0 = 1 holds 0: -1 0
            reads 4 0 0 = 1 holds 0: 3 -1
            reads 4 1 0 = 1 holds 0: -1 1
            """);
    }

    private static void readTurned() {
        Script.run(15, """
            # SIDES modulo 4
            town "g11 sabcd"
            again 3 turn 0
            reads 0 0 0 = 1 holds 0: 3
            reads 0 1 0 = 1 holds 0: 1
            reads 1 0 0 = 1 holds 0: 0
            reads 1 1 0 = 1 holds 0: 2
            turn 0
            reads 0 0 0 = 1 holds 0: 0
            reads 1 1 0 = 1 holds 0: 3
            # nothing but GAPS
            town "g31 uabcd cabcd0 uabcd"
            reads 0 0 0 = 0 holds 0: -1 -1 -1
            turn 1
            reads 0 0 0 = 1 holds 0: -1 1 -1
            reads 2 1 0 = 0 holds 0: -1
            again 3 turn 1
            reads 0 0 0 = 0 holds 0: -1 -1 -1
            town "g11 habcd"
            turn 0
            reads 0 0 0 = 1 holds 0: 2
            reads 1 1 0 = 1 holds 0: 1
            turn 0
            reads 0 0 0 = 1 holds 0: 0
            """);
    }

    private static void standNumbers() {
        Script.run(16, """
            stands {-1,4,MIN,MAX} = BAD
            stands {0,1,2,3} = NOTHING
            # without STONES
            rule 0: 0
            rule 3: 7 7 7
            stands {0,3} = 0 asked 0
            stands {1,2} = NOTHING
            stands 4 = BAD
            """);
    }

    private static void standPlaces() {
        Script.run(16, """
            # at the start, at the end, all of a STREET
            town "g31 sabcd sbcda scdab"
            rule 0: 0
            stands 0 = 2 asked 3
            rule 0: 0 1
            stands 0 = 2 asked 1
            rule 0: 1 2
            stands 0 = 2 asked 1
            rule 0: 0 1 2
            stands 0 = 2 asked 1
            rule 0: 0 3 2
            stands 0 = 2 asked 1
            # not with one between, nor the other way round, nor beyond the end
            rule 0: 0 2
            stands 0 = 0 asked 0
            rule 0: 2 1
            stands 0 = 0 asked 0
            rule 0: 2 3 0
            stands 0 = 0 asked 0
            rule 0: 1 2 0
            stands 0 = 0 asked 0
            rule 0: 4
            stands 0 = 0 asked 0
            """);
        Script.run(16, """
            # longer than each STREET; in all STREETS from both ENDS, each counted once
            town "g22 saaaa saaaa saaaa saaaa"
            rule 0: 0 0 0
            rule 1: 0 0
            rule 2: 0
            stands 0 = 0 asked 0
            stands {1,2} = 2 asked 8
            town "g32 saaaa saaaa saaaa saaaa saaaa saaaa"
            stands 0 = 2 asked 4
            stands {1,2} = 2 asked 10
            town "g11 saaaa"
            stands {0,1} = 0 asked 0
            stands 2 = 2 asked 4
            town "g12 sabbb sabbb"
            stands 1 = 0 asked 0
            stands 2 = 2 asked 2
            """);
    }

    private static void standWorn() {
        Script.run(16, """
            town "g31 xabbb0h saaaa xabbb0h"
            rule 0: 0 0 0
            stands 0 = 1 asked 1
            # each place for itself
            rule 0: 7 0 0
            stands 0 = 1 asked 0
            rule 0: 0 0 7
            stands 0 = 1 asked 0
            rule 0: 7 0 7
            stands 0 = 1 asked 0
            rule 0: 7 7 7
            stands 0 = 0 asked 0
            rule 0: 6 0 7
            stands 0 = 0 asked 0
            rule 0: 0
            stands 0 = 2 asked 4
            """);
        Script.run(16, """
            # SURELY at one place of a STREET, not at another one
            town "g31 xabbb0h sabbb sabbb"
            rule 0: 0 0
            stands 0 = 2 asked 1
            rule 0: 0 0 0
            stands 0 = 1 asked 1
            # the other WORD is the same
            town "g21 xabcd0a scccc"
            rule 0: 0
            stands 0 = 1 asked 1
            rule 0: 0 2
            stands 0 = 1 asked 1
            # a WORN one's other SIDES are sure; turned, the SIDE is read elsewhere
            rule 0: 2 2
            stands 0 = 2 asked 1
            again 2 turn 0
            stands 0 = 2 asked 1
            rule 0: 2 0
            stands 0 = 1 asked 1
            again 2 turn 0
            stands 0 = 0 asked 0
            """);
    }

    private static void standGaps() {
        Script.run(16, """
            # no LAW over a GAP, nor PERHAPS
            town "g31 sabbb cabbb0 sabbb"
            rule 0: 0 0
            stands 0 = 0 asked 0
            rule 0: 0 0 0
            stands 0 = 0 asked 0
            rule 0: 0
            stands 0 = 2 asked 1
            rule 0: 0 1 0
            stands 0 = 0 asked 0
            turn 1
            stands 0 = 2 asked 1
            town "g31 saaaa uaaaa saaaa"
            rule 0: 0 0
            stands 0 = 0 asked 0
            rule 0: 0
            stands 0 = 2 asked 6
            town "g11 uaaaa"
            stands 0 = 0 asked 0
            town "g11 caaaa0"
            stands 0 = 2 asked 3
            """);
    }

    private static void laws() {
        Script.run(17, """
            laws = 0 asked 0
            rule 0: 0
            rule 1: 7
            laws = 0 asked 0
            town "g11 xabcd0h"
            laws = 1 asked 3
            rule 3: 1
            laws = 9 asked 11
            rule 2: 6
            laws = 9 asked 11
            rule 2: 3
            rule 1: 2
            laws = 15 asked 15
            town "g11 ueeee"
            laws = 0 asked 0
            town "g11 xeeee3a"
            laws = 0 asked 1
            turn 0
            laws = 0 asked 1
            """);
    }

    private static void turnNumbers() {
        Script.run(18, """
            # without STONES
            turn {0,-1} = BAD
            turn NONE = 1
            town "g22 sabcd fabcd habcd uabcd"
            turn {-1,-8,-10,4,MIN,MAX} = BAD
            turn {1,3} = UNLIKE
            turn 0 = 1
            turn 2 = 2
            turn NONE = 3
            state = 33 asked 3
            """);
    }

    private static void turnsAround() {
        Script.run(18, """
            # four TURNS of a STONE, two of a HALF one, lead back; others stay
            town "g32 sabcd sabcd xabcd0a habcd cabcd0 sabcd"
            again 4 turn 0
            state = 0 asked 4
            again 3 turn 2
            state = 48 asked 7
            turn 2
            state = 0 asked 8
            turn 3
            state = 128 asked 9
            turn 3
            state = 0 asked 10
            again 3 turn 4
            state = 768 asked 13
            turn 4 = 14
            state = 0 asked 14
            again 3 turn 5
            state = 3072 asked 17
            turn 5 = 18
            state = 0 asked 18
            """);
    }

    private static void lastYear() {
        Script.run(18, YEAR_960 + """
            row 0 38
            till 0 0
            state = 2 asked 998
            turn 0 = 999
            state = 3 asked 999
            # BAD, then UNLIKE, then SPENT
            turn {0,NONE} = SPENT
            turn {2,-1} = BAD
            turn 1 = UNLIKE
            state = 3 asked 999
            """);
        Script.run(18, YEAR_960 + """
            row 0 38
            till 0 0
            turn NONE = 999
            turn NONE = SPENT
            # a kept YEAR leads back
            keep 0 = 999
            on 0 = 999
            turn NONE = SPENT
            """);
    }

    private static void tillNumbers() {
        Script.run(19, """
            town "g21 sabcd fabcd"
            rule 0: 7
            rule 3: 0 0
            row 0 1
            row 5 1
            till {-1,6,MIN,MAX} 0 = BAD
            till 0 {-1,4,MIN,MAX} = BAD
            till 6 4 = BAD
            # BAD comes ahead of NOTHING
            till 6 1 = BAD
            till 2 4 = BAD
            till {0,5} {1,2} = NOTHING
            till {1,4} 0 = NOTHING
            till 1 1 = NOTHING
            till {0,5} 3 = 0
            till 0 0 = NONE
            till 5 0 = NONE
            state = 2 asked 2
            till 0 3 = NONE
            till 0 3 = 1
            state = 0 asked 4
            """);
    }

    private static void tillOrder() {
        Script.run(19, """
            town "g31 sabcd fabcd uabcd"
            rule 0: 7
            rule 1: 0 0
            # NOTHING comes ahead of UNLIKE
            lays 0: 1
            till 0 2 = NOTHING
            # a FIXED, a SUNK one, no STONE, nor NONE; at any place, though the LAW stands
            till 0 {0,1} = UNLIKE
            lays 0: 2
            till 0 {0,1} = UNLIKE
            lays 0: 3
            till 0 {0,1} = UNLIKE
            lays 0: -1
            till 0 {0,1} = UNLIKE
            lays 0: -8
            till 0 {0,1} = UNLIKE
            lays 0: -10
            till 0 {0,1} = UNLIKE
            lays 0: MIN
            till 0 {0,1} = UNLIKE
            lays 0: MAX
            till 0 {0,1} = UNLIKE
            lays 0: 0 0 0 0 1
            till 0 {0,1} = UNLIKE
            turn 0
            till 0 {0,1} = UNLIKE
            state = 1 asked 1
            lays 0: 0 NONE 0 0
            till 0 1 = 4
            state = 0 asked 5
            """);
    }

    private static void tillYears() {
        Script.run(19, """
            town "g21 sabcd saaaa"
            rule 0: 2 0
            rule 1: 7
            # none of a ROW of none
            row 0 0
            till 0 {0,1} = NONE
            state = 0 asked 0
            # behind the first, behind one between, behind the last
            lays 0: 0 0 0
            till 0 0 = 2
            state = 2 asked 2
            till 0 0 = 0
            row 1 0
            till 1 0 = 0
            state = 2 asked 2
            turn 0
            lays 0: 0
            till 0 0 = NONE
            state = 0 asked 4
            lays 0: NONE 0 NONE 0
            till 0 0 = 4
            state = 2 asked 8
            again 3 turn 0
            till 1 0 = NONE
            lays 0: 0 1
            till 0 0 = 1
            state = 2 asked 12
            # all go by
            till 0 1 = NONE
            state = 7 asked 14
            """);
        Script.run(19, """
            # sixty of them; and without STONES
            rule 0: 2 0
            lays 0: 3xNONE
            till 0 0 = NONE
            state = 0 asked 3
            row 1 60
            till 1 0 = UNLIKE
            town "g21 sabcd saaaa"
            rule 1: 7
            till 1 1 = NONE
            state = 0 asked 60
            lays 1: 58xNONE 0 0
            till 1 0 = 60
            state = 2 asked 120
            """);
    }

    private static void tillLastYear() {
        Script.run(19, YEAR_960 + """
            row 0 40
            till 0 0 = SPENT
            # though the LAW stands ahead of them
            till 0 1 = SPENT
            row 0 60
            till 0 0 = SPENT
            # UNLIKE comes ahead of SPENT, NOTHING ahead of both
            lay 0 59 1
            till 0 0 = UNLIKE
            till 0 2 = NOTHING
            row 0 39
            till 0 1 = 0
            state = 0 asked 960
            till 0 0 = NONE
            state = 3 asked 999
            row 0 1
            till 0 {0,1} = SPENT
            lays 0: NONE
            till 0 {0,1} = SPENT
            lays 0: 1
            till 0 {0,1} = UNLIKE
            row 0 0
            till 0 0 = NONE
            till 0 1 = 0
            state = 3 asked 999
            """);
    }

    private static void keep() {
        Script.run(20, """
            keep {-1,3,MIN,MAX} = BAD
            keep {0,1,2} = STATE
            turn NONE
            keep {0,2} = STATE
            town "g11 sabcd"
            keep 0 = 0
            turn 0
            keep 2 = 1
            keep {-1,3} = BAD
            turn 0
            on 0 = 0
            on 1 = NOTHING
            on 2 = 1
            # anew
            again 2 turn 0
            keep 0 = 3
            on 2 = 1
            on 0 = 3
            state = 3 asked 3
            """);
        Script.run(20, YEAR_960 + """
            row 0 39
            till 0 0
            keep 1 = 999
            on 1 = 999
            state = 3 asked 999
            """);
    }

    private static void on() {
        Script.run(21, """
            on {-1,3,MIN,MAX} = BAD
            on {0,1,2} = NOTHING
            town "g32 sabcd sabcd sabcd sabcd sabcd sabcd"
            on {0,2} = NOTHING
            again 3 turn {0,1,2,3,4,5}
            keep 2
            turn 5
            keep 0
            lays 0: 0 0 0
            engrave 1 0 0 0
            rule 1: 3
            turn NONE
            # LAWS, ENGRAVINGS, ROWS stay, and what is kept
            on 2 = 18
            state = 4095 asked 18
            count 5 = 1
            count 2 = 1
            count 6 = 1
            on 0 = 19
            state = 1023 asked 19
            on 1 = NOTHING
            on 2 = 18
            on 2 = 18
            turn 0 = 19
            on 2 = 18
            state = 4095 asked 18
            """);
        Script.run(21, YEAR_960 + """
            # back from the last YEAR
            keep 0
            row 0 39
            till 0 0
            turn 0 = SPENT
            on 0 = 960
            turn 0 = 961
            state = 1 asked 961
            """);
    }

    private static void state() {
        Script.run(22, """
            state = 0 asked 0
            turn NONE
            state = 0 asked 1
            town "g32 sabcd sabcd sabcd sabcd sabcd sabcd"
            state = 0 asked 0
            turn 0
            state = 1 asked 1
            turn 1
            state = 5 asked 2
            turn 2
            state = 21 asked 3
            turn 3
            state = 85 asked 4
            turn 4
            state = 341 asked 5
            turn 5
            state = 1365 asked 6
            again 2 turn {0,1,2,3,4,5}
            # the greatest
            state = 4095 asked 18
            turn 0
            state = 4092 asked 19
            turn 5
            state = 1020 asked 20
            turn NONE
            state = 1020 asked 21
            """);
    }
}
