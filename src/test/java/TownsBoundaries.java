/** The boundary cases of promises 10 to 14: faults, towns, stones, marks, laws. */
public final class TownsBoundaries {
    /** A stone of each kind; no word is a letter of a kind, so that a lost sign is missed at once. */
    private static final String DENSE = "g32sababxbaba0bfababhbabacabab3ubaba";
    private static final String OLD = "town \"g21 xabcd0h fbcda\"\nrule 0: 7 1\nrule 1: 0\nturn 0\nkeep 1\nturn 0\n"
        + "lays 0: 0 1\nengrave 0 0 0 0\n";

    public static void main(String[] args) {
        faultNumbers();
        faultsOfSize();
        faultsOfSigns();
        faultsByPlace();
        faultsOfBlanks();
        fullTexts();
        oddBytes();
        townNumbers();
        townsAnew();
        stone();
        quarters();
        markNumbers();
        markTells();
        lawNumbers();
        lawsAnew();
        Script.end();
    }

    /** A text's fault, beside a town that stays if a faulty one is refused. */
    private static void due(String text, String fault) {
        String refused = fault.equals("NONE") ? "" : "\ntown 1 = STATE";
        Script.run(10, OLD + "write 1 \"" + text + "\"\nfault 1 = " + fault + refused);
    }

    private static void due(String text, int fault) {
        due(text, String.valueOf(fault));
    }

    private static void faultNumbers() {
        Script.run(10, """
            fault {-1,4,MIN,MAX} = BAD
            fault {0,1,2,3} = NOTHING
            text 0 0
            text 3 80
            fault 0 = 0
            fault 3 = 80
            write 3 "g11sabcd"
            fault 3 = NONE
            # a TEXT that has been read is read again
            fault 3 = NONE
            """);
    }

    private static void faultsOfSize() {
        due("", 0);
        due(" ", 1);
        due("g", 1);
        due("g1", 2);
        due("g11", 3);
        due("g0", 1);
        due("g4", 1);
        due("g10", 2);
        due("g13", 2);
        due("g/1", 1);
        due("g01sabcd", 1);
        due("g41sabcd", 1);
        due("g10sabcd", 2);
        due("g13sabcd", 2);
        due("g111sabcd", 3);
        due("gg11sabcd", 1);
        due("11sabcd", 0);
        due("f11sabcd", 0);
        due("h11sabcd", 0);
        due("G11sabcd", 0);
        due("sabcd", 0);
        String stones = "";
        for (int n = 1; n <= 6; n++) {
            stones += "sabcd";
            int size = 3 + 5 * n;
            for (int wide = 1; wide <= 3; wide++) {
                for (int high = 1; high <= 2; high++) {
                    int due = wide * high;
                    // One stone too many: its place; too few of them: the text's size.
                    String fault = n == due ? "NONE" : String.valueOf(n > due ? 3 + 5 * due : size);
                    due("g" + wide + high + stones, fault);
                }
            }
        }
    }

    private static void faultsOfSigns() {
        for (char c : "sfhu".toCharArray()) due("g11" + c + "abcd", "NONE");
        for (char c : "abdegrtvwyzSXFHCU0 9!".toCharArray()) {
            if (c != ' ') due("g11" + c + "abcd", 3);
        }
        for (int side = 0; side < 4; side++) {
            String start = "g11s" + "aaaa".substring(0, side);
            String rest = "aaaa".substring(side + 1);
            due(start + "a" + rest, "NONE");
            due(start + "h" + rest, "NONE");
            for (char c : "`iAH0s ".toCharArray()) due(start + c + rest, 4 + side);
        }
        for (char c : "03".toCharArray()) {
            due("g11cabcd" + c, "NONE");
            due("g11xabcd" + c + "a", "NONE");
            due("g11xabcd" + c + "h", "NONE");
        }
        for (char c : "/4a ".toCharArray()) {
            due("g11cabcd" + c + "0", 8);
            due("g11xabcd" + c + "0a", 8);
        }
        for (char c : "`i0A ".toCharArray()) due("g11xabcd0" + c + "a", 9);
        // What belongs to another kind is too much.
        due("g11sabcd0", 8);
        due("g11fabcd0", 8);
        due("g11habcd0", 8);
        due("g11uabcd0", 8);
        due("g11cabcd0a", 9);
        due("g11xabcd0aa", 10);
        due("g11xabcd00", 9);
        due("g11xabcda0", 8);
    }

    private static void faultsByPlace() {
        due(DENSE, "NONE");
        // The end comes too early at each place.
        for (int n = 0; n < DENSE.length(); n++) due(DENSE.substring(0, n), n);
        // A sign that is none such, at each place.
        for (int i = 0; i < DENSE.length(); i++) due(DENSE.substring(0, i) + "!" + DENSE.substring(i + 1), i);
        due(DENSE + "!", DENSE.length());
        due(DENSE + " s", DENSE.length() + 1);
    }

    private static void faultsOfBlanks() {
        // A blank put in at each place: between items it is none, within an item it is the fault.
        for (int i = 0; i <= DENSE.length(); i++) {
            boolean between = i == 0 || i == DENSE.length() || "gsxfhcu".indexOf(DENSE.charAt(i)) >= 0;
            due(DENSE.substring(0, i) + " " + DENSE.substring(i), between ? "NONE" : String.valueOf(i));
        }
        due("   g11   sabcd   ", "NONE");
        due("g11\tsabcd", 3);
        due("g11_sabcd", 3);
        due("g11!sabcd", 3);
        due("g11sabcd   s", 11);
        due("g21sabcd   ", 11);
        due("g21   sabcd", 11);
    }

    private static void fullTexts() {
        String ahead = " ".repeat(80 - DENSE.length());
        due(ahead + DENSE, "NONE");
        due(DENSE + ahead, "NONE");
        due((" " + ahead + DENSE).substring(0, 80), 80);
        due(DENSE + ahead.substring(1) + "s", 79);
        due(" ".repeat(79) + "g", 80);
        due(" ".repeat(79) + "s", 79);
        due(" ".repeat(80), 80);
    }

    private static void oddBytes() {
        Script.run(10, """
            # signs are cut to bytes: 256 more or less is the same sign
            write 1 "g11sabcd"
            put 1 0 359
            put 1 3 -141
            fault 1 = NONE
            # the bytes beside a blank are none, nor is 0
            text 1 9
            put 1 1 103
            put 1 2 49
            put 1 3 49
            put 1 4 115
            put 1 5 97
            put 1 6 97
            put 1 7 97
            put 1 8 97
            fault 1 = NONE
            put 1 0 31
            fault 1 = 0
            put 1 0 33
            fault 1 = 0
            put 1 0 0
            fault 1 = 0
            put 1 0 -96
            fault 1 = 0
            put 1 0 288
            fault 1 = NONE
            # a sign and 128 more is another one
            put 1 8 225
            fault 1 = 8
            put 1 8 -159
            fault 1 = NONE
            """);
    }

    private static void townNumbers() {
        Script.run(11, """
            town {-1,4,MIN,MAX} = BAD
            town {0,1,2,3} = NOTHING
            text 0 0
            text 3 0
            # STATE behind NOTHING
            town {0,3} = STATE
            town {1,2} = NOTHING
            write 3 "g11uabcd"
            town 3 = 1
            write 0 "g32 sabcd sabcd sabcd sabcd sabcd sabcd"
            town 0 = 6
            write 1 "g32 sabcd sabcd sabcd sabcd sabcd"
            town 1 = STATE
            count 0 = 6
            town 3 = 1
            count 0 = 1
            count 1 = 2
            """);
        int[][] sizes = {{1, 1}, {1, 2}, {2, 1}, {2, 2}, {3, 1}, {3, 2}};
        for (int[] size : sizes) {
            int stones = size[0] * size[1];
            String town = "g" + size[0] + size[1] + "sabcd".repeat(stones);
            Script.run(11, "write 2 \"" + town + "\"\ntown 2 = " + stones + "\ncount 0 = " + stones
                + "\ncount 1 = " + (size[0] + size[1]));
        }
    }

    private static void townsAnew() {
        Script.run(11, """
            # a TOWN anew, by the TEXT of the old one, too: QUARTERS 0, YEAR 0
            town "g21 xabcd0h fbcda"
            rule 0: 7 1
            rule 3: 0
            turn 0
            keep {0,1,2}
            turn 0
            lays 0: 0 1
            lays 4: 6
            engrave 0 0 0 0
            share 0
            at 4 0
            town 0 = 2
            state = 0 asked 0
            # LAWS, ROWS, TEXTS stay
            count 2 = 2
            count 6 = 2 holds 4: 6
            count 7 = 1
            stands 0 = 1 asked 0
            stands 3 = 2 asked 2
            # ENGRAVINGS, kept TOWNS go
            count 5 = 0
            lose 1 = BAD
            on {0,1,2} = NOTHING
            engrave 0 0 0 0 = 0
            """);
        Script.run(11, """
            # the TEXT may go on without the TOWN
            town "g11 xabcd0h"
            rule 0: 7
            text 0 2
            stands 0 = 1 asked 0
            stone 0 5 = 1 asked 3
            town 0 = STATE
            # and YEARS are counted anew behind the last one
            row 1 60
            rule 1: 6
            again 16 till 1 1
            row 1 39
            till 1 1
            turn 0 = SPENT
            write 0 "g12 saaaa xabcd3h"
            town 0 = 2
            turn 0 = 1
            # what is read now is of the new STONES
            mark 1 1 = 3
            mark 0 1 = UNLIKE
            stands 0 = 1 asked 0
            """);
    }

    private static final String KINDS = "town \"g32 sabcd xbcda1h fcdab hdabc cabcd3 ubcda\"\n";

    private static void stone() {
        Script.run(12, "stone 0 0 = BAD\n" + KINDS + """
            stone 0 0 = 1 asked 0
            stone 1 0 = 1 asked 1
            stone 2 0 = 1 asked 2
            stone 3 0 = 1 asked 3
            stone 4 0 = 1 asked 4
            stone 5 0 = 1 asked 5
            stone {0,1,2,3,4,5} 1 = 1 asked 0
            stone 0 2 = 1 asked 0
            stone 0 5 = 1 asked 3
            stone 1 2 = 1 asked 1
            # a WORN SIDE's WORD as it was laid, a SUNK one's WORDS, too
            stone 1 3 = 1 asked 2
            stone 2 4 = 1 asked 0
            stone 3 5 = 1 asked 2
            stone 5 2 = 1 asked 1
            stone 5 3 = 1 asked 2
            stone 5 4 = 1 asked 3
            stone 5 5 = 1 asked 0
            stone 4 2 = 1 asked 0
            stone 4 3 = 1 asked 1
            stone 4 4 = 1 asked 2
            stone 4 5 = 1 asked -1
            stone {-1,6,MIN,MAX,NONE} 0 = BAD
            stone 0 {-1,6,MIN,MAX} = BAD
            stone 6 6 = BAD
            """);
        Script.run(12, KINDS + """
            # STONES of an older, larger TOWN are gone
            town "g11 cahah0"
            stone 0 0 = 1 asked 4
            stone 0 2 = 1 asked -1
            stone 0 3 = 1 asked 7
            stone 1 0 = BAD
            town "g21 cahah1 cahah2"
            stone 0 3 = 1 asked -1
            stone 0 2 = 1 asked 0
            stone 1 4 = 1 asked -1
            stone 1 5 = 1 asked 7
            stone 2 0 = BAD
            """);
    }

    private static void quarters() {
        Script.run(12, KINDS + """
            # QUARTERS modulo 4; those of other STONES stay
            again 3 turn 0
            stone 0 1 = 1 asked 3
            turn 0
            stone 0 1 = 1 asked 0
            stone 1 1 = 1 asked 0
            turn 3
            stone 3 1 = 1 asked 2
            turn 3
            stone 3 1 = 1 asked 0
            stone 4 1 = 1 asked 0
            again 3 turn 4
            stone 4 1 = 1 asked 3
            stone {2,5} 1 = 1 asked 0
            # WORDS are told as they were laid
            stone 4 5 = 1 asked -1
            stone 4 2 = 1 asked 0
            turn 4
            stone 4 1 = 1 asked 0
            turn 1
            turn NONE
            stone 1 1 = 1 asked 1
            """);
    }

    private static void markNumbers() {
        Script.run(13, "mark 0 1 = BAD\n" + KINDS + """
            mark {-1,6,MIN,MAX} 1 = BAD
            mark {0,1,2,3,4,5} {0,6,-1,MIN,MAX} = BAD
            # BAD comes ahead of UNLIKE
            mark 6 5 = BAD
            mark 0 0 = BAD
            mark {0,2,3,5} 1 = UNLIKE
            mark {0,1,3,4} 2 = UNLIKE
            mark {0,1,2,4,5} 3 = UNLIKE
            mark {0,1,2,3,5} 4 = UNLIKE
            mark {0,1,2,3,4} 5 = UNLIKE
            mark 1 1 = 1
            mark 4 1 = 3
            mark {2,5} 2 = 2
            mark 3 3 = 2
            mark 4 4 = 3
            mark 5 5 = 1
            """);
    }

    private static void markTells() {
        Script.run(13, """
            town "g11 fabcd"
            mark 0 2 = 0
            mark 0 5 = UNLIKE
            town "g11 uabcd"
            mark 0 2 = 0
            mark 0 5 = 0
            town "g21 fabcd uabcd"
            mark {0,1} 2 = 1
            mark 1 5 = 0
            town "g12 fabcd uabcd"
            mark {0,1} 2 = 1
            mark 1 5 = 1
            town "g31 fabcd fabcd fabcd"
            mark {0,1,2} 2 = 1
            town "g22 fabcd fabcd uabcd uabcd"
            mark {0,1,2,3} 2 = 2
            mark {2,3} 5 = 1
            """);
        Script.run(13, """
            # the SIDES of WORN and CUT ones
            town "g22 xabcd0h cabcd3 xabcd3a cabcd0"
            mark {0,3} 1 = 0
            mark {1,2} 1 = 3
            turn 0
            mark 0 1 = 0
            # unlike WORDS of a HALF one: those that its row is shown
            town "g31 habab hbaab haaaa"
            mark 0 3 = 1
            mark 1 3 = 2
            mark 2 3 = 1
            turn 1
            mark 1 3 = 2
            # unlike WORDS of a CUT one's other SIDES, from 1 to 3
            town "g32 caaab3 caaab0 cabcd1 chaaa0 cabba2 cabca3"
            mark 0 4 = 1
            mark 1 4 = 2
            mark 2 4 = 3
            mark 3 4 = 1
            mark 4 4 = 2
            mark 5 4 = 3
            turn 2
            mark 2 4 = 3
            """);
        Script.run(13, """
            town "g32 uaaaa saaaa uaaaa uaaaa saaaa uaaaa"
            mark {0,2} 5 = 0
            mark {3,5} 5 = 1
            town "g22 saaaa uaaaa uaaaa saaaa"
            mark 1 5 = 0
            mark 2 5 = 1
            """);
    }

    private static void lawNumbers() {
        Script.run(14, """
            lays 0: 0 7 3
            lays 5: 7
            row 1 0
            law 0 0 = 3
            law 3 5 = 1
            law {-1,4,MIN,MAX} 0 = BAD
            law 0 {-1,6,MIN,MAX} = BAD
            law {-1,4} 2 = BAD
            law 4 1 = BAD
            law {0,1} 2 = NOTHING
            law 1 1 = SIZE
            lays 1: 4x0
            law 1 1 = SIZE
            lays 1: 0 0
            law 1 1 = 2
            # SIZE comes ahead of UNLIKE
            lays 1: 4x8
            law 2 1 = SIZE
            count 2 = 3
            """);
        Script.run(14, """
            row 0 60
            law 0 0 = SIZE
            lays 0: 8
            law 0 0 = UNLIKE
            lays 0: -1
            law 0 0 = UNLIKE
            lays 0: MAX
            law 0 0 = UNLIKE
            lays 0: MIN
            law 0 0 = UNLIKE
            lays 0: 0 8
            law 0 0 = UNLIKE
            lays 0: 0 7 8
            law 0 0 = UNLIKE
            lays 0: 0 -1 7
            law 0 0 = UNLIKE
            count 2 = 0
            lays 0: 0
            law 0 0 = 1
            lays 0: 7 7 7
            law 1 0 = 3
            count 2 = 2
            """);
    }

    private static void lawsAnew() {
        Script.run(14, """
            town "g31 sabcd sabcd sabcd"
            rule 0: 0 0
            # what is refused leaves the LAW that was
            lays 0: 1 8
            law 0 0 = UNLIKE
            row 1 0
            law 0 1 = SIZE
            law 0 4 = NOTHING
            law 0 6 = BAD
            stands 0 = 2 asked 1
            # the ROW may go on without the LAW
            lays 0: 1 1
            law 0 0 = 2
            stands 0 = 0 asked 0
            lay 0 0 0
            lay 0 1 0
            stands 0 = 0 asked 0
            # anew, shorter and longer
            lays 0: 3
            law 0 0 = 1
            stands 0 = 2 asked 3
            lays 0: 2 2 2
            law 0 0 = 3
            stands 0 = 2 asked 1
            count 2 = 1
            """);
    }
}
