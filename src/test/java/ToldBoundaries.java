/** The boundary cases of promises 37 to 43, of the terms, and an object's last call. */
public final class ToldBoundaries {
    private static int wrong = 0;

    public static void main(String[] args) {
        asked();
        askedStays();
        fractions();
        countsOfNone();
        countsOfAll();
        finding();
        findings();
        digestOfNone();
        digestByParts();
        digestOfAll();
        constants();
        lastCalls();
        if (wrong != 0) System.exit(1);
        Script.end();
    }

    private static void due(String call, long got, long want) {
        if (got == want) return;
        wrong++;
        System.out.println(call + " answered " + got + ", due is " + want);
    }

    private static final String TOWN = "town \"g21 sabcd fefgh\"\nrule 0: 0 4\nrule 1: 7 7\n";

    private static void asked() {
        Script.run(37, "asked = 0\n" + TOWN + """
            asked = 0
            lays 0: 5
            lay 0 0 MIN = 1 asked 5
            asked = 5
            at 0 0 = 1 asked MIN
            asked = -2147483648
            lay 0 0 MAX = 1 asked MIN
            mean 0 = 1 asked MAX
            stone 0 5 = 1 asked 3
            stands 0 = 2 asked 1
            turn 0
            asked = 1
            laws = 0 asked 0
            state = 1 asked 1
            years 1 = 3 asked 0
            rule 2: 1 4
            lost 1 = 4 asked 0
            together = 1 asked 1
            rule 3: 7
            laws = 12 asked 12
            lost 1 = 4 asked 8
            rule 2: 4 4
            mend 2 = 4 asked 3
            contest 0 3 = 0 asked NONE
            asked = -9
            when 1 0 = 1 asked 3
            turned 1 1 = 1 asked 1
            asked = 1
            """);
    }

    private static void askedStays() {
        Script.run(37, TOWN + """
            rule 2: 0
            lays 0: 41
            at 0 0 = 1 asked 41
            # calls that tell nothing by asked()
            row 1 2 = 2
            text 3 1 = 1
            put 3 0 1 = 1032
            fault 0 = NONE
            fault 3 = 0
            town 0 = 2
            mark 1 2 = 1
            copy 0 0 1 0 1 = 1
            law 3 4 = NOTHING
            reads 0 0 2 = 2
            engrave 0 0 0 2 = 0
            turn NONE = 1
            keep 0 = 1
            way 1 2 = 0
            till 2 0 = 0
            on 0 = 1
            share 1 = 1 told 1 4
            histories 1 = 1 told 2 1
            odds 1 1 0 = 1 told 1 2
            lives 1 5 = 0 told 1 1
            lose 0 = 1
            count 0 = 2
            finding = 1
            findings 1 = 1
            upper = 1
            lower = 1
            tear 1 = 1
            asked = 41
            # refused ones, and NONE
            lay 0 1 1 = BEYOND
            at 6 0 = BAD
            row 1 0
            mean 1 = NOUGHT
            stone 2 0 = BAD
            stands 3 = NOTHING
            years {2,8} = NONE
            years 16 = BAD
            lost 2 = NONE
            lost 16 = BAD
            mend 0 = STATE
            mend 1 = NONE
            contest 0 13 = BAD
            when 10 0 = BAD
            turned 0 1 = BAD
            asked = 41
            """);
    }

    private static void fractions() {
        Script.run(38, "upper = 0\n" + TOWN + """
            upper = 0
            share 1 = 1 told 1 4
            upper = 1
            share 2 = 0 told 0 1
            upper = 0
            histories 9 = 1 told 512 1
            odds 2 2 0 = 1 told 1 4
            turn 0
            lives 1 5 = 3 told 125 1728
            # refused ones, and NONE
            share {-1,16} = BAD
            lives 2 5 = NONE
            lives 1 13 = BAD
            odds 2 3 0 = BAD
            odds 2 2 3 = NOTHING
            histories 10 = BAD
            upper = 125
            """);
        Script.run(39, "lower = 1\n" + TOWN + """
            lower = 1
            share 1 = 1 told 1 4
            lower = 4
            share 2 = 0 told 0 1
            lower = 1
            odds 2 2 0 = 1 told 1 4
            lower = 4
            histories 9 = 1 told 512 1
            lower = 1
            turn 0
            lives 1 5 = 3 told 125 1728
            lays 0: 1 4
            engrave 0 0 0 0
            histories 0 = NOUGHT
            odds 0 0 0 = NOUGHT
            lower = 1728
            # calls that tell no fractions
            state = 1 asked 1
            years 1 = 3 asked 0
            together = 1 asked 1
            town 0 = 2
            lower = 1728
            """);
    }

    private static void countsOfNone() {
        Script.run(40, """
            count {-1,8,MIN,MAX} = BAD
            count {0,1,2,3,4,5,6,7} = 0
            # the least TOWN
            write 3 "g11sabcd"
            town 3 = 1
            count 0 = 1
            count 1 = 2
            count {2,3,4,5,6} = 0
            count 7 = 1
            count {-1,8} = BAD
            """);
    }

    private static void countsOfAll() {
        Script.run(40, """
            town "g32 xaaaa0a xaaaa0a caaaa0 caaaa0 xaaaa0a caaaa0"
            count 0 = 6
            count 1 = 5
            count 3 = 6
            count 4 = 0
            rule {0,1,2,3}: 0
            count 2 = 4
            rule 3: 1 1
            count 2 = 4
            reads 0 0 0
            engrave {0,1,2,3} 0 0 0
            count 5 = 4
            row {0,1,2,3,4,5} 0
            count 6 = 6
            text {0,1,2,3} 0
            count 7 = 4
            count {-1,8} = BAD
            """);
        Script.run(40, """
            town "g32 fabcd uabcd uabcd fabcd uabcd fabcd"
            count 3 = 0
            count 4 = 6
            town "g32 sabcd xabcd0a fabcd habcd cabcd0 uabcd"
            count 3 = 2
            count 4 = 2
            town "g12 sabcd habcd"
            count 1 = 3
            count {3,4} = 0
            """);
    }

    private static void finding() {
        Script.run(41, """
            finding = 0
            row 6 0 = BAD
            keep 0 = STATE
            years 1 = NONE
            finding = 0
            tear 0 = NOTHING
            finding = 1
            row 0 0
            at 0 0 = BEYOND
            finding = 2
            lays 0: 8
            law 0 0 = UNLIKE
            finding = 3
            row 0 0
            mean 0 = NOUGHT
            finding = 4
            row 0 -1 = SIZE
            finding = 5
            # other refusals, and calls that are not refused, leave it
            row 6 0 = BAD
            share 0 = STATE
            row 0 1 = 1
            finding = 5
            finding = 5
            tear 1 = NOTHING
            finding = 1
            """);
    }

    private static void findings() {
        Script.run(42, """
            findings {0,6,-1,MIN,MAX} = BAD
            findings {1,2,3,4,5} = 0
            tear {0,1,2} = NOTHING
            findings 1 = 3
            row 0 0
            at 0 {0,1} = BEYOND
            findings 2 = 2
            mean 0 = NOUGHT
            findings 4 = 1
            row 0 {-1,-2,-3,-4} = SIZE
            findings 5 = 4
            findings 3 = 0
            lays 0: 8
            law {0,1,2,3} 0 = UNLIKE
            findings 3 = 4
            # what is refused otherwise is not counted
            tear 6 = BAD
            keep 0 = STATE
            years 1 = NONE
            findings {0,6} = BAD
            findings 1 = 3
            findings 5 = 4
            """);
    }

    private static long fold(long h, long... values) {
        for (long v : values) h = 31 * h + v;
        return h;
    }

    private static long foldTimes(long h, int times, long v) {
        for (int i = 0; i < times; i++) h = 31 * h + v;
        return h;
    }

    private static void digestOfNone() {
        long h = foldTimes(foldTimes(17, 9, 0), 17, -1);
        Script.run(43, "digest = " + h + "\ndigest = " + h + "\nrow 6 0 = BAD\ntear 0 = NOTHING\ndigest = " + h);
        // The YEAR alone.
        long year = foldTimes(fold(foldTimes(17, 8, 0), 1), 17, -1);
        Script.run(43, "turn NONE\ndigest = " + year);
        // An empty row, an empty text are not missing ones.
        long empty = fold(17, 0, 0, 0, 0, 0, 0, 1, 1, 0);
        empty = foldTimes(empty, 4 + 3 + 5, -1);
        empty = fold(empty, 0, 0, -1, -1, -1);
        Script.run(43, "row 5 0\ntext 0 0\ndigest = " + empty);
    }

    private static void digestByParts() {
        // A law of one word, one place of a row, one byte, as signed numbers.
        long h = fold(17, 0, 0, 1, 0, 0, 0, 1, 1, 0);
        h = fold(h, -1, -1, 1, 7, -1, -1, -1, -1);
        h = fold(h, 1, Integer.MIN_VALUE, -1, -1, -1, -1, -1);
        h = fold(h, -1, -1, -1, 1, -128);
        Script.run(43, "rule 2: 7\nlays 0: MIN\ntext 3 1\nput 3 0 128\ndigest = " + h);
        // A town kept in its year 0, of state 0; an engraving of a gap.
        h = fold(17, 1, 2, 0, 1, 0, 1, 1, 1, 2);
        h = fold(h, 4, 2, -1, 1, 2, 3);
        h = fold(h, -1, -1, -1, -1);
        h = fold(h, 9, 1, 1, -1);
        h = fold(h, 0, 0, -1, 1, 1);
        h = fold(h, 1, -1, -1, -1, -1, -1, -1);
        h = fold(h, 9, 'g', '1', '1', 'c', 'a', 'b', 'c', 'd', '0', -1, -1, -1);
        Script.run(43, "town \"g11cabcd0\"\nkeep 0\nturn 0\nkeep 2\nturn 0\nlays 0: -1\nengrave 9 1 1 0\ndigest = " + h);
    }

    private static void digestOfAll() {
        String town = "g32sabcdxbcda1hfcdabhdabccabcd3ubcda";
        String script = "town \"" + town + " ".repeat(80 - town.length()) + "\"\n"
            + "rule 0: 0 0 0\nrule 1: 7 7 7\nrule 2: 1 2 3\nrule 3: 7 6 5\n"
            + "lays 0: 0 1 2\nengrave 0 0 0 0\nlays 0: 7 -1\nengrave 9 4 1 0\nengrave 9 4 0 0\nengrave 5 2 0 0\n"
            + "keep 0\nturn 0\nturn 3\nkeep 1\n"
            + "row 0 60\nagain 16 till 0 1\nrow 0 37\ntill 0 1\n"
            + "keep 2\nlays 0: MAX 58x-1 MIN\n"
            + "row {1,2,3,4,5} 60\ncopy 0 0 {1,2,3,4,5} 0 60\n"
            + "text {1,2,3} 80\nput {1,2,3} 0 255\nput {1,2,3} 79 127\n";
        long h = fold(17, 6, 5, 4, 2, 2, 4, 6, 4, 999);
        int quarters = (1 + 960 + 37) % 4;
        h = fold(h, 0, quarters, 0, 1, 2, 3, 1, 0, 1, 2, 3, 0, 2, 0, 2, 3, 0, 1);
        h = fold(h, 3, 2, 3, 0, 1, 2, 4, 0, 0, 1, 2, -1, 5, 0, 1, 2, 3, 0);
        h = fold(h, 3, 0, 0, 0, 3, 7, 7, 7, 3, 1, 2, 3, 3, 7, 6, 5);
        h = fold(h, 0, 0, 0, 0, 1, 2, 9, 4, 1, 7, -1, 9, 4, 0, 7, -1, 5, 2, 0, 7, -1);
        h = fold(h, 0, 0, 1 + 2 * 64, 2, quarters + 2 * 64, 999);
        for (int r = 0; r < 6; r++) h = fold(foldTimes(fold(h, 60, Integer.MAX_VALUE), 58, -1), Integer.MIN_VALUE);
        h = fold(h, 80);
        for (int i = 0; i < 80; i++) h = fold(h, i < town.length() ? town.charAt(i) : 32);
        for (int t = 1; t < 4; t++) h = fold(foldTimes(fold(h, 80, -1), 78, 32), 127);
        Script.run(43, script + "digest = " + h + "\nturn 0 = SPENT\nengrave 0 0 0 0 = SIZE\nrow 0 61 = BAD\ndigest = " + h);
    }

    private static void constants() {
        due("BAD", TurnedStones.BAD, -1);
        due("FULL", TurnedStones.FULL, -2);
        due("FINDING", TurnedStones.FINDING, -3);
        due("STATE", TurnedStones.STATE, -4);
        due("SPENT", TurnedStones.SPENT, -6);
        due("NONE", TurnedStones.NONE, -9);
    }

    /** The 512th call is answered as the first one. */
    private static void lastCalls() {
        TurnedStones years = new TurnedStones();
        for (int i = 1; i <= 511; i++) due("turn(NONE)", years.turn(TurnedStones.NONE), i);
        due("turn(NONE), the 512th call", years.turn(TurnedStones.NONE), 512);
        TurnedStones found = new TurnedStones();
        for (int i = 1; i <= 511; i++) due("at(0, 0)", found.at(0, 0), TurnedStones.FINDING);
        due("findings(1), the 512th call", found.findings(1), 511);
    }
}
