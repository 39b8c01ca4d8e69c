/** The boundary cases of promises 1 to 9: a new object, rows, texts. */
public final class RowsBoundaries {
    public static void main(String[] args) {
        newObject();
        row();
        lay();
        at();
        tear();
        copyNumbers();
        copyPlaces();
        copyWithin();
        mean();
        text();
        put();
        Script.end();
    }

    private static void newObject() {
        Script.run(1, """
            count {0,1,2,3,4,5,6,7} = 0
            asked = 0
            upper = 0
            lower = 1
            finding = 0
            findings {1,2,3,4,5} = 0
            state = 0 asked 0
            laws = 0 asked 0
            together = 0 asked 0
            tear {0,1,2,3,4,5} = NOTHING
            fault {0,1,2,3} = NOTHING
            stands {0,1,2,3} = NOTHING
            on {0,1,2} = NOTHING
            """);
        Script.run(1, """
            # no STONE, no STREET, no ENGRAVING
            stone 0 0 = BAD
            mark 0 1 = BAD
            reads 0 0 0 = BAD
            turn 0 = BAD
            lose 1 = BAD
            lose 0 = 0
            keep 0 = STATE
            share 0 = STATE
            years 0 = 0 asked 0
            years {1,2,4,8,15} = NONE
            histories {0,9} = 1 told 1 1
            turn NONE = 1
            """);
    }

    private static void row() {
        Script.run(2, """
            # the least and the greatest ROW and size
            row 0 0 = 0 holds 0:
            row 5 60 = 60 holds 5: 60x0
            row 0 60 = 60 holds 0: 60x0
            row 5 0 = 0 holds 5:
            row 0 1 = 1 holds 0: 0
            row 0 59 = 59 holds 0: 59x0
            row {-1,6,MIN,MAX} 3 = BAD
            row 0 {61,MAX} = BAD
            row 0 {-1,MIN} = SIZE
            # BAD comes ahead of SIZE
            row {-1,6} {-1,61,MIN} = BAD
            count 6 = 2
            """);
        Script.run(2, """
            # a ROW that is there begins anew; one that is refused stays
            lays 2: 7 8 9
            lays 3: 5
            row 2 61 = BAD holds 2: 7 8 9
            row 2 -1 = SIZE holds 2: 7 8 9
            row 2 2 = 2 holds 2: 0 0
            row 2 3 = 3 holds 2: 0 0 0
            count 6 = 2 holds 3: 5
            # one that is missing stays missing
            row 4 61 = BAD
            row 4 -1 = SIZE
            tear 4 = NOTHING
            # all six are there
            row {0,1,2,3,4,5} 1 = 1
            count 6 = 6
            """);
    }

    private static void lay() {
        Script.run(3, """
            lay 0 0 1 = NOTHING
            row 0 60
            row 5 1
            row 1 0
            # the least and the greatest place and int
            lay 0 0 MIN = 1 asked 0
            lay 0 59 MAX = 1 asked 0 holds 0: MIN 58x0 MAX
            lay 0 0 -1 = 1 asked MIN
            lay 0 59 -9 = 1 asked MAX
            lay 0 0 0 = 1 asked -1
            lay 0 59 0 = 1 asked -9
            lay 5 0 4 = 1 asked 0 holds 5: 4
            lay 5 0 4 = 1 asked 4
            lay {-1,6,MIN,MAX} 0 1 = BAD
            lay 0 {-1,60,MIN,MAX} 1 = BEYOND
            lay 5 {-1,1} 1 = BEYOND
            lay 1 {-1,0,1} 1 = BEYOND
            # BAD, then NOTHING, then BEYOND
            lay {-1,6} -1 1 = BAD
            lay 2 {-1,0,60} 1 = NOTHING
            """);
    }

    private static void at() {
        Script.run(4, """
            at 0 0 = NOTHING
            lays 0: MIN 58x3 MAX
            lays 5: -1
            row 1 0
            at 0 0 = 1 asked MIN
            at 0 1 = 1 asked 3
            at 0 59 = 1 asked MAX
            at 5 0 = 1 asked -1
            at {-1,6,MIN,MAX} 0 = BAD
            at 0 {-1,60,MIN,MAX} = BEYOND
            at 5 {-1,1} = BEYOND
            at 1 {-1,0,1} = BEYOND
            # BAD, then NOTHING, then BEYOND
            at {-1,6} -1 = BAD
            at 2 {-1,0,60} = NOTHING
            """);
    }

    private static void tear() {
        Script.run(5, """
            tear {0,5} = NOTHING
            row 0 0
            row 5 60
            lays 1: 4
            tear {-1,6,MIN,MAX} = BAD
            # an empty one, a full one
            tear 0 = 1
            tear 5 = 1
            count 6 = 1 holds 1: 4
            tear {0,5} = NOTHING
            at 0 0 = NOTHING
            row 0 2 = 2 holds 0: 0 0
            lays 5: 1 2
            tear 5 = 1
            row 5 2 = 2 holds 5: 0 0
            # a LAW is not lost with the ROW that it came from
            lays 2: 3
            law 1 2
            tear 2 = 1
            count 2 = 1
            """);
    }

    private static void copyNumbers() {
        Script.run(6, """
            lays 0: 1 2 3
            lays 5: 7 8 9 10
            copy {-1,6,MIN,MAX} 0 0 0 1 = BAD
            copy 0 0 {-1,6,MIN,MAX} 0 1 = BAD
            copy 0 0 5 0 {-1,MIN} = SIZE
            # BAD, then SIZE, then NOTHING, then BEYOND
            copy {-1,6} 0 0 0 -1 = BAD
            copy 0 0 {-1,6} 0 -1 = BAD
            copy {-1,6} 0 2 0 1 = BAD
            copy 2 0 {-1,6} 0 1 = BAD
            copy 2 0 0 0 -1 = SIZE
            copy 0 0 2 0 -1 = SIZE
            copy 0 9 5 9 -1 = SIZE
            copy 2 0 0 0 1 = NOTHING
            copy 0 0 2 0 1 = NOTHING
            copy 2 0 3 0 0 = NOTHING
            copy 0 9 2 0 1 = NOTHING
            copy 2 -1 0 9 1 = NOTHING
            copy 2 0 0 0 MAX = NOTHING
            """);
    }

    private static void copyPlaces() {
        Script.run(6, """
            lays 0: 1 2 3
            lays 5: 7 8 9 10
            row 1 0
            # none, also from behind the last one on
            copy 0 0 5 0 0 = 1 holds 5: 7 8 9 10
            copy 0 3 5 4 0 = 1 holds 5: 7 8 9 10
            copy 1 0 1 0 0 = 1 holds 1:
            # more than are there to take
            copy 0 0 5 0 4 = BEYOND
            copy 0 1 5 0 3 = BEYOND
            copy 0 {3,-1,MIN,MAX} 5 0 1 = BEYOND
            copy 0 {4,-1,MAX} 5 0 0 = BEYOND
            copy 0 {0,1,MAX} 5 0 MAX = BEYOND
            copy 1 0 5 0 1 = BEYOND
            # more than there are to come to
            copy 5 0 0 0 4 = BEYOND
            copy 5 0 0 1 3 = BEYOND
            copy 5 0 0 {3,-1,MIN,MAX} 1 = BEYOND
            copy 5 0 0 {4,-1,MAX} 0 = BEYOND
            copy 5 0 0 {0,1,MAX} MAX = BEYOND
            copy 0 0 1 0 1 = BEYOND
            # as many as there are
            copy 0 0 5 1 3 = 1 holds 5: 7 1 2 3
            copy 5 0 0 0 3 = 1 holds 0: 7 1 2
            copy 5 3 0 2 1 = 1 holds 0: 7 1 3
            """);
    }

    private static void copyWithin() {
        Script.run(6, """
            lays 0: 1 2 3 4 5
            copy 0 0 0 1 4 = 1 holds 0: 1 1 2 3 4
            copy 0 1 0 0 4 = 1 holds 0: 1 2 3 4 4
            copy 0 0 0 0 5 = 1 holds 0: 1 2 3 4 4
            copy 0 0 0 0 6 = BEYOND
            copy 0 0 0 5 0 = 1 holds 0: 1 2 3 4 4
            """);
        Script.run(6, """
            # sixty of sixty
            lays 0: 1 58x2 MIN
            row 5 60
            copy 0 0 5 0 60 = 1 holds 5: 1 58x2 MIN
            copy 0 0 5 0 61 = BEYOND
            copy 5 0 5 1 59 = 1 holds 5: 1 1 58x2
            """);
    }

    private static void mean() {
        Script.run(7, """
            mean {-1,6,MIN,MAX} = BAD
            mean {0,5} = NOTHING
            row 0 0
            row 5 0
            mean {0,5} = NOUGHT
            lays 0: MIN
            mean 0 = 1 asked MIN
            lays 0: MAX
            mean 0 = 1 asked MAX
            # cut, below 0, too
            lays 1: 0 1
            mean 1 = 1 asked 0
            lays 1: 0 -1
            mean 1 = 1 asked 0
            lays 1: 0 3
            mean 1 = 1 asked 1
            lays 1: 0 -3
            mean 1 = 1 asked -1
            lays 1: MAX MIN
            mean 1 = 1 asked 0
            lays 1: MIN MIN MAX
            mean 1 = 1 asked -715827883
            tear 0
            mean 0 = NOTHING
            """);
        Script.run(7, """
            # the sum of sixty is above what an int holds
            lays 5: 60xMAX
            mean 5 = 1 asked MAX
            lay 5 0 0
            mean 5 = 1 asked 2111692252
            """);
        Script.run(7, """
            lays 5: 60xMIN
            mean 5 = 1 asked MIN
            """);
    }

    private static void text() {
        Script.run(8, """
            text 0 0 = 0
            text 3 80 = 80
            text 0 80 = 80
            text 3 0 = 0
            text 0 1 = 1
            put 0 0 1 = 1032
            put 0 1 1 = BEYOND
            text 0 79 = 79
            put 0 79 1 = BEYOND
            put 0 78 1 = 1032
            text {-1,4,MIN,MAX} 3 = BAD
            text 0 {81,MAX} = BAD
            text 0 {-1,MIN} = SIZE
            # BAD comes ahead of SIZE
            text {-1,4} {-1,81,MIN} = BAD
            count 7 = 2
            # one that is missing stays missing
            text 1 81 = BAD
            text 1 -1 = SIZE
            fault 1 = NOTHING
            text {0,1,2,3} 1 = 1
            count 7 = 4
            """);
        Script.run(8, """
            # blanks anew; a refused one stays
            text 2 3
            put 2 0 1
            put 2 2 2
            text 2 81 = BAD
            put 2 2 2 = 1002
            text 2 -1 = SIZE
            put 2 2 3 = 1002
            text 2 3 = 3
            put 2 0 1 = 1032
            put 2 1 1 = 1032
            put 2 2 1 = 1032
            """);
    }

    private static void put() {
        Script.run(9, """
            put 0 0 1 = NOTHING
            text 0 80
            text 3 1
            text 1 0
            # cut to a byte, -128 to 127
            put 0 0 127 = 1032
            put 0 0 128 = 1127
            put 0 0 255 = 872
            put 0 0 256 = 999
            put 0 0 -1 = 1000
            put 0 0 -128 = 999
            put 0 0 -129 = 872
            put 0 0 MAX = 1127
            put 0 0 MIN = 999
            put 0 0 0 = 1000
            put 0 0 0 = 1000
            # the least and the greatest place
            put 0 79 5 = 1032
            put 0 79 5 = 1005
            put 3 0 7 = 1032
            put 3 0 7 = 1007
            put {-1,4,MIN,MAX} 0 1 = BAD
            put 0 {-1,80,MIN,MAX} 1 = BEYOND
            put 3 {-1,1} 1 = BEYOND
            put 1 {-1,0,1} 1 = BEYOND
            # BAD, then NOTHING, then BEYOND
            put {-1,4} -1 1 = BAD
            put 2 {-1,0,80} 1 = NOTHING
            """);
    }
}
