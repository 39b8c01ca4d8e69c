/** Each promise of the document by calls whose answers were reckoned by hand. */
public final class PromiseTests {
    private static final int BAD = TurnedStones.BAD, FULL = TurnedStones.FULL, FINDING = TurnedStones.FINDING;
    private static final int STATE = TurnedStones.STATE, SPENT = TurnedStones.SPENT, NONE = TurnedStones.NONE;
    private static final int NOTHING = 1, BEYOND = 2, UNLIKE = 3, NOUGHT = 4, SIZE = 5;
    private static int wrong = 0;
    private static int promise = 0;
    private static int checks = 0;

    private static void due(String call, long got, long want) {
        checks++;
        if (got == want) return;
        wrong++;
        System.out.println("promise " + promise + ": " + call + " answered " + got + ", due is " + want);
    }

    private static void dueFinding(TurnedStones x, String call, int got, int finding) {
        due(call, got, FINDING);
        due(call + ", finding()", x.finding(), finding);
    }

    private static void dueAsked(TurnedStones x, String call, int got, int want, int asked) {
        due(call, got, want);
        due(call + ", asked()", x.asked(), asked);
    }

    private static void dueFraction(TurnedStones x, String call, int got, int want, long upper, long lower) {
        due(call, got, want);
        due(call + ", upper()", x.upper(), upper);
        due(call + ", lower()", x.lower(), lower);
    }

    private static void write(TurnedStones x, int t, String text) {
        x.text(t, text.length());
        for (int i = 0; i < text.length(); i++) x.put(t, i, text.charAt(i));
    }

    private static TurnedStones townOf(String text) {
        TurnedStones x = new TurnedStones();
        write(x, 0, text);
        if (x.town(0) <= 0) throw new IllegalStateException("no town: " + text);
        return x;
    }

    private static void lays(TurnedStones x, int r, int... values) {
        x.row(r, values.length);
        for (int i = 0; i < values.length; i++) x.lay(r, i, values[i]);
    }

    private static void makeLaw(TurnedStones x, int l, int... words) {
        lays(x, 5, words);
        if (x.law(l, 5) != words.length) throw new IllegalStateException("no law");
        x.tear(5);
    }

    private static void dueRow(TurnedStones x, String call, int r, int... want) {
        for (int i = 0; i < want.length; i++) {
            due(call + ", at(" + r + ", " + i + ")", x.at(r, i), 1);
            due(call + ", place " + i, x.asked(), want[i]);
        }
        due(call + ", its end", x.at(r, want.length), FINDING);
    }

    public static void main(String[] args) {
        newObject();
        rows();
        copies();
        means();
        texts();
        faults();
        towns();
        stonesAndMarks();
        lawsMade();
        readings();
        standing();
        turnsAndYears();
        keeping();
        leastYears();
        shares();
        mending();
        contests();
        engravings();
        pasts();
        living();
        told();
        digests();
        System.out.println(checks + " checks, " + wrong + " wrong");
        if (wrong != 0) System.exit(1);
    }

    private static void newObject() {
        promise = 1;
        TurnedStones x = new TurnedStones();
        for (int what = 0; what <= 7; what++) due("count(" + what + ")", x.count(what), 0);
        due("asked()", x.asked(), 0);
        due("upper()", x.upper(), 0);
        due("lower()", x.lower(), 1);
        due("finding()", x.finding(), 0);
        due("state()", x.state(), 0);
        for (int r = 0; r <= 5; r++) due("tear", x.tear(r), FINDING);
        for (int t = 0; t <= 3; t++) due("fault", x.fault(t), FINDING);
        for (int l = 0; l <= 3; l++) due("stands", x.stands(l), FINDING);
        for (int k = 0; k <= 2; k++) due("on", x.on(k), FINDING);
        due("findings(1)", x.findings(NOTHING), 6 + 4 + 4 + 3);
    }

    private static void rows() {
        promise = 2;
        TurnedStones x = new TurnedStones();
        due("row(0, 60)", x.row(0, 60), 60);
        due("row(5, 0)", x.row(5, 0), 0);
        due("row(0, 61)", x.row(0, 61), BAD);
        due("row(-1, 3)", x.row(-1, 3), BAD);
        due("row(6, 3)", x.row(6, 3), BAD);
        due("row(6, -1)", x.row(6, -1), BAD);
        due("finding()", x.finding(), 0);
        dueFinding(x, "row(0, -1)", x.row(0, -1), SIZE);
        dueFinding(x, "row(0, MIN)", x.row(0, Integer.MIN_VALUE), SIZE);
        due("count(6)", x.count(6), 2);
        x.lay(0, 1, 9);
        due("row(0, 2)", x.row(0, 2), 2);
        dueRow(x, "row(0, 2)", 0, 0, 0);

        promise = 3;
        dueAsked(x, "lay(0, 1, MIN)", x.lay(0, 1, Integer.MIN_VALUE), 1, 0);
        dueAsked(x, "lay(0, 1, 4)", x.lay(0, 1, 4), 1, Integer.MIN_VALUE);
        due("lay(6, 0, 0)", x.lay(6, 0, 0), BAD);
        due("lay(-1, 0, 0)", x.lay(-1, 0, 0), BAD);
        dueFinding(x, "lay(1, 0, 0)", x.lay(1, 0, 0), NOTHING);
        dueFinding(x, "lay(0, 2, 0)", x.lay(0, 2, 0), BEYOND);
        dueFinding(x, "lay(0, -1, 0)", x.lay(0, -1, 0), BEYOND);

        promise = 4;
        dueAsked(x, "at(0, 1)", x.at(0, 1), 1, 4);
        due("at(6, 0)", x.at(6, 0), BAD);
        dueFinding(x, "at(1, 0)", x.at(1, 0), NOTHING);
        dueFinding(x, "at(0, 2)", x.at(0, 2), BEYOND);
        dueFinding(x, "at(0, MAX)", x.at(0, Integer.MAX_VALUE), BEYOND);
        dueFinding(x, "at(5, 0)", x.at(5, 0), BEYOND);
        due("asked()", x.asked(), 4);

        promise = 5;
        due("tear(0)", x.tear(0), 1);
        dueFinding(x, "tear(0)", x.tear(0), NOTHING);
        due("tear(6)", x.tear(6), BAD);
        due("tear(-1)", x.tear(-1), BAD);
        dueFinding(x, "at(0, 0)", x.at(0, 0), NOTHING);
        due("count(6)", x.count(6), 1);
    }

    private static void copies() {
        promise = 6;
        TurnedStones x = new TurnedStones();
        lays(x, 0, 1, 2, 3, 4, 5);
        lays(x, 1, 7, 8);
        due("copy(0, 0, 0, 1, 4)", x.copy(0, 0, 0, 1, 4), 1);
        dueRow(x, "copy up within itself", 0, 1, 1, 2, 3, 4);
        due("copy(0, 2, 0, 0, 3)", x.copy(0, 2, 0, 0, 3), 1);
        dueRow(x, "copy down within itself", 0, 2, 3, 4, 3, 4);
        due("copy(1, 0, 0, 3, 2)", x.copy(1, 0, 0, 3, 2), 1);
        dueRow(x, "copy to another", 0, 2, 3, 4, 7, 8);
        due("copy(0, 5, 1, 2, 0)", x.copy(0, 5, 1, 2, 0), 1);
        due("copy(6, 0, 0, 0, -1)", x.copy(6, 0, 0, 0, -1), BAD);
        due("copy(0, 0, 6, 0, -1)", x.copy(0, 0, 6, 0, -1), BAD);
        due("copy(0, 0, -1, 0, 1)", x.copy(0, 0, -1, 0, 1), BAD);
        dueFinding(x, "copy(2, 0, 3, 0, -1)", x.copy(2, 0, 3, 0, -1), SIZE);
        dueFinding(x, "copy(2, 9, 0, 0, 1)", x.copy(2, 9, 0, 0, 1), NOTHING);
        dueFinding(x, "copy(0, 9, 2, 0, 1)", x.copy(0, 9, 2, 0, 1), NOTHING);
        dueFinding(x, "copy(0, 4, 1, 0, 2)", x.copy(0, 4, 1, 0, 2), BEYOND);
        dueFinding(x, "copy(0, 0, 1, 1, 2)", x.copy(0, 0, 1, 1, 2), BEYOND);
        dueFinding(x, "copy(0, -1, 1, 0, 1)", x.copy(0, -1, 1, 0, 1), BEYOND);
        dueFinding(x, "copy(0, 0, 1, -1, 1)", x.copy(0, 0, 1, -1, 1), BEYOND);
        dueFinding(x, "copy(0, MAX, 1, 0, MAX)", x.copy(0, Integer.MAX_VALUE, 1, 0, Integer.MAX_VALUE), BEYOND);
        dueRow(x, "copies refused", 0, 2, 3, 4, 7, 8);
        dueRow(x, "copies refused", 1, 7, 8);
    }

    private static void means() {
        promise = 7;
        TurnedStones x = new TurnedStones();
        lays(x, 0, 3, 4, 4);
        dueAsked(x, "mean of 3, 4, 4", x.mean(0), 1, 3);
        lays(x, 0, -3, -4, -4);
        dueAsked(x, "mean of -3, -4, -4", x.mean(0), 1, -3);
        lays(x, 0, Integer.MAX_VALUE, Integer.MAX_VALUE, Integer.MAX_VALUE);
        dueAsked(x, "mean of the greatest", x.mean(0), 1, Integer.MAX_VALUE);
        x.row(1, 0);
        dueFinding(x, "mean of none", x.mean(1), NOUGHT);
        dueFinding(x, "mean(2)", x.mean(2), NOTHING);
        due("mean(6)", x.mean(6), BAD);
        due("asked()", x.asked(), Integer.MAX_VALUE);
    }

    private static void texts() {
        promise = 8;
        TurnedStones x = new TurnedStones();
        due("text(0, 80)", x.text(0, 80), 80);
        due("text(3, 0)", x.text(3, 0), 0);
        due("text(0, 81)", x.text(0, 81), BAD);
        due("text(4, 1)", x.text(4, 1), BAD);
        due("text(-1, -1)", x.text(-1, -1), BAD);
        dueFinding(x, "text(0, -1)", x.text(0, -1), SIZE);
        due("count(7)", x.count(7), 2);

        promise = 9;
        due("put(0, 79, 255)", x.put(0, 79, 255), 1032);
        due("put(0, 79, 128)", x.put(0, 79, 128), 999);
        due("put(0, 79, 256 + 65)", x.put(0, 79, 256 + 65), 872);
        due("put(0, 79, 0)", x.put(0, 79, 0), 1065);
        due("put(4, 0, 0)", x.put(4, 0, 0), BAD);
        dueFinding(x, "put(1, 0, 0)", x.put(1, 0, 0), NOTHING);
        dueFinding(x, "put(0, 80, 0)", x.put(0, 80, 0), BEYOND);
        dueFinding(x, "put(0, -1, 0)", x.put(0, -1, 0), BEYOND);
        due("text(0, 80) anew", x.text(0, 80), 80);
        due("put on a blank", x.put(0, 79, 1), 1032);
        due("asked()", x.asked(), 0);
    }

    private static void dueFault(String text, int want) {
        TurnedStones x = new TurnedStones();
        write(x, 2, text);
        due("fault of '" + text + "'", x.fault(2), want);
        if (want != NONE) due("town of '" + text + "'", x.town(2), STATE);
    }

    private static void faults() {
        promise = 10;
        dueFault("", 0);
        dueFault("   ", 3);
        dueFault("g11sabcd", NONE);
        dueFault("   g11   sabcd   ", NONE);
        dueFault("g21xabcd3hfabcd", NONE);
        dueFault("g12habcdcabcd0", NONE);
        dueFault("g31uabcd uabcd uhhhh", NONE);
        dueFault("G11sabcd", 0);
        dueFault("g01sabcd", 1);
        dueFault("g41sabcd", 1);
        dueFault("g10sabcd", 2);
        dueFault("g13sabcd", 2);
        dueFault("g1", 2);
        dueFault("g 11sabcd", 1);
        dueFault("g11s abcd", 4);
        dueFault("g11sabcd s", 9);
        dueFault("g11sabcd!", 8);
        dueFault("g11sabci", 7);
        dueFault("g11sab", 6);
        dueFault("g21 sabcd  ", 11);
        dueFault("g11yabcd", 3);
        dueFault("g11xabcd", 8);
        dueFault("g11xabcd4a", 8);
        dueFault("g11xabcd0", 9);
        dueFault("g11xabcd0 a", 9);
        dueFault("g11xabcd0i", 9);
        dueFault("g11cabcd", 8);
        dueFault("g11cabcd4", 8);
        dueFault("g11cabcd 0", 8);
        dueFault("g11cabcd0a", 9);
        dueFault("g11sabcd0", 8);
        dueFault("g11\tsabcd", 3);
        TurnedStones x = new TurnedStones();
        due("fault(4)", x.fault(4), BAD);
        due("fault(-1)", x.fault(-1), BAD);
        dueFinding(x, "fault(0)", x.fault(0), NOTHING);
    }

    private static void towns() {
        promise = 11;
        TurnedStones x = new TurnedStones();
        due("town(4)", x.town(4), BAD);
        due("town(-1)", x.town(-1), BAD);
        dueFinding(x, "town(0)", x.town(0), NOTHING);
        write(x, 1, "g32 sabcd sabcd sabcd sabcd sabcd sabcd");
        due("town(1)", x.town(1), 6);
        due("count(0)", x.count(0), 6);
        due("count(1)", x.count(1), 5);
        makeLaw(x, 0, 0);
        x.turn(3);
        x.keep(1);
        lays(x, 0, 0, 0, 0);
        due("engrave", x.engrave(0, 0, 0, 0), 0);
        write(x, 2, "g11 sabcd!");
        due("town of a fault", x.town(2), STATE);
        due("nothing changed", x.count(0), 6);
        dueAsked(x, "state()", x.state(), 64, 1);
        due("count(5)", x.count(5), 1);
        write(x, 2, "g12 saaaa sbbbb");
        due("town(2)", x.town(2), 2);
        dueAsked(x, "state()", x.state(), 0, 0);
        due("count(1)", x.count(1), 3);
        due("laws stay", x.count(2), 1);
        due("the law is read of the new stones", x.stands(0), 2);
        due("engravings go", x.count(5), 0);
        dueFinding(x, "kept towns go: on(1)", x.on(1), NOTHING);
    }

    private static void stonesAndMarks() {
        promise = 12;
        TurnedStones x = townOf("g32 sabcd xabcd1h fabcd habcd cabcd2 uabcd");
        for (int k = 0; k < 6; k++) {
            dueAsked(x, "kind of " + k, x.stone(k, 0), 1, k);
            dueAsked(x, "quarters of " + k, x.stone(k, 1), 1, 0);
            for (int side = 0; side < 4; side++) {
                dueAsked(x, "word of " + k, x.stone(k, 2 + side), 1, k == 4 && side == 2 ? -1 : side);
            }
        }
        x.turn(0);
        x.turn(0);
        x.turn(3);
        dueAsked(x, "stone(0, 1)", x.stone(0, 1), 1, 2);
        dueAsked(x, "stone(3, 1)", x.stone(3, 1), 1, 2);
        dueAsked(x, "stone(0, 2) as laid", x.stone(0, 2), 1, 0);
        due("stone(6, 0)", x.stone(6, 0), BAD);
        due("stone(-1, 0)", x.stone(-1, 0), BAD);
        due("stone(0, 6)", x.stone(0, 6), BAD);
        due("stone(0, -1)", x.stone(0, -1), BAD);

        promise = 13;
        due("mark(1, 1)", x.mark(1, 1), 1);
        due("mark(4, 1)", x.mark(4, 1), 2);
        due("mark(2, 2)", x.mark(2, 2), 2);
        due("mark(5, 2)", x.mark(5, 2), 2);
        due("mark(3, 3)", x.mark(3, 3), 2);
        due("mark(4, 4)", x.mark(4, 4), 3);
        due("mark(5, 5)", x.mark(5, 5), 1);
        due("mark(0, 0)", x.mark(0, 0), BAD);
        due("mark(0, 6)", x.mark(0, 6), BAD);
        due("mark(6, 1)", x.mark(6, 1), BAD);
        due("mark(-1, 1)", x.mark(-1, 1), BAD);
        dueFinding(x, "mark(0, 1)", x.mark(0, 1), UNLIKE);
        dueFinding(x, "mark(1, 4)", x.mark(1, 4), UNLIKE);
        dueFinding(x, "mark(2, 5)", x.mark(2, 5), UNLIKE);
        dueFinding(x, "mark(2, 3)", x.mark(2, 3), UNLIKE);
        due("a fixed one in one shared street", townOf("g21 fabcd sabcd").mark(0, 2), 1);
        due("a fixed one in one shared street", townOf("g12 fabcd sabcd").mark(0, 2), 1);
        due("a fixed one alone", townOf("g11 fabcd").mark(0, 2), 0);
        due("a half one of one word", townOf("g11 habac").mark(0, 3), 1);
        due("a cut one of two words", townOf("g11 caaba3").mark(0, 4), 2);
        due("a cut one of one word", townOf("g11 caaba2").mark(0, 4), 1);
        due("a sunk one above", townOf("g11 uaaaa").mark(0, 5), 0);
    }

    private static void lawsMade() {
        promise = 14;
        TurnedStones x = new TurnedStones();
        lays(x, 0, 0, 7, 3);
        due("law(0, 0)", x.law(0, 0), 3);
        due("law(3, 0)", x.law(3, 0), 3);
        due("law(4, 0)", x.law(4, 0), BAD);
        due("law(-1, 0)", x.law(-1, 0), BAD);
        due("law(0, 6)", x.law(0, 6), BAD);
        due("law(0, -1)", x.law(0, -1), BAD);
        dueFinding(x, "law(0, 1)", x.law(0, 1), NOTHING);
        x.row(1, 0);
        dueFinding(x, "law of none", x.law(0, 1), SIZE);
        lays(x, 1, 8, 0, 0, 0);
        dueFinding(x, "law of four", x.law(0, 1), SIZE);
        lays(x, 1, 0, 8);
        dueFinding(x, "law of 8", x.law(0, 1), UNLIKE);
        lays(x, 1, -1, 0);
        dueFinding(x, "law of -1", x.law(0, 1), UNLIKE);
        due("count(2)", x.count(2), 2);
        lays(x, 1, 5);
        due("law anew", x.law(0, 1), 1);
        due("count(2)", x.count(2), 2);
    }

    private static void readings() {
        promise = 15;
        TurnedStones x = townOf("g32 sabcd xbcda0h cabcd0 fcdab hdabc ueeee");
        due("reads(0, 0, 0)", x.reads(0, 0, 0), 2);
        dueRow(x, "row 0 from the left", 0, 0, 1, -1);
        due("reads(0, 1, 0)", x.reads(0, 1, 0), 3);
        dueRow(x, "row 0 from the right", 0, 2, 3, 2);
        due("reads(1, 0, 0)", x.reads(1, 0, 0), 2);
        dueRow(x, "row 1 from the left", 0, 2, 3, -1);
        due("reads(2, 0, 1)", x.reads(2, 0, 1), 2);
        dueRow(x, "column 0 from above", 1, 1, 3);
        due("reads(2, 1, 1)", x.reads(2, 1, 1), 2);
        dueRow(x, "column 0 from below", 1, 1, 3);
        due("reads(3, 1, 1)", x.reads(3, 1, 1), 2);
        dueRow(x, "column 1 from below", 1, 2, 0);
        due("reads(4, 0, 1)", x.reads(4, 0, 1), 1);
        dueRow(x, "column 2 from above", 1, 1, -1);
        x.turn(0);
        x.turn(2);
        x.turn(4);
        due("reads(0, 0, 0)", x.reads(0, 0, 0), 3);
        dueRow(x, "row 0 turned", 0, 1, 1, 1);
        due("reads(1, 0, 0)", x.reads(1, 0, 0), 2);
        dueRow(x, "row 1 turned", 0, 2, 1, -1);
        due("reads(2, 0, 1)", x.reads(2, 0, 1), 2);
        dueRow(x, "column 0 turned", 1, 2, 3);
        x.turn(2);
        x.turn(2);
        due("reads(4, 0, 1)", x.reads(4, 0, 1), 0);
        dueRow(x, "column 2 of gaps", 1, -1, -1);
        due("reads(5, 0, 0)", x.reads(5, 0, 0), BAD);
        due("reads(-1, 0, 0)", x.reads(-1, 0, 0), BAD);
        due("reads(0, 2, 0)", x.reads(0, 2, 0), BAD);
        due("reads(0, -1, 0)", x.reads(0, -1, 0), BAD);
        due("reads(0, 0, 6)", x.reads(0, 0, 6), BAD);
        due("reads without stones", new TurnedStones().reads(0, 0, 0), BAD);
        due("reads into a missing row", x.reads(0, 0, 4), 3);
        due("count(6)", x.count(6), 3);
    }

    private static void standing() {
        promise = 16;
        TurnedStones x = townOf("g31 saaaa xabab2c saaaa");
        makeLaw(x, 0, 0, 0);
        makeLaw(x, 1, 1);
        makeLaw(x, 2, 0, 2, 0);
        makeLaw(x, 3, 7);
        dueAsked(x, "twice in one street", x.stands(0), 2, 2);
        dueAsked(x, "column 1 from both ends", x.stands(1), 2, 2);
        dueAsked(x, "perhaps from the right", x.stands(2), 1, 0);
        dueAsked(x, "not at all", x.stands(3), 0, 0);
        due("stands(4)", x.stands(4), BAD);
        due("stands(-1)", x.stands(-1), BAD);
        TurnedStones y = townOf("g21 xabcd0h scccc");
        makeLaw(y, 0, 0, 2);
        dueAsked(y, "by a worn side: not surely", y.stands(0), 1, 1);
        makeLaw(y, 1, 2);
        dueAsked(y, "beside a worn side: surely", y.stands(1), 2, 4);
        makeLaw(y, 2, 7);
        dueAsked(y, "perhaps", y.stands(2), 1, 0);
        makeLaw(y, 3, 2, 0);
        dueAsked(y, "only with its words turned round", y.stands(3), 0, 0);
        TurnedStones none = new TurnedStones();
        dueFinding(none, "stands of a missing law", none.stands(0), NOTHING);
        TurnedStones cut = townOf("g11 caaaa0");
        makeLaw(cut, 0, 0);
        dueAsked(cut, "three sides of a cut one", cut.stands(0), 2, 3);
        TurnedStones sunk = townOf("g11 uaaaa");
        makeLaw(sunk, 0, 0);
        dueAsked(sunk, "nothing is read of a sunk one", sunk.stands(0), 0, 0);

        promise = 17;
        dueAsked(x, "laws()", x.laws(), 3, 7);
        dueAsked(y, "laws()", y.laws(), 3, 7);
        dueAsked(none, "laws()", none.laws(), 0, 0);
    }

    private static void turnsAndYears() {
        promise = 18;
        TurnedStones x = townOf("g22 sabcd fabcd habcd uabcd");
        due("turn(0)", x.turn(0), 1);
        due("turn(2)", x.turn(2), 2);
        due("turn(NONE)", x.turn(NONE), 3);
        dueAsked(x, "state()", x.state(), 1 + 2 * 16, 3);
        due("turn(4)", x.turn(4), BAD);
        due("turn(-1)", x.turn(-1), BAD);
        dueFinding(x, "turn of a fixed one", x.turn(1), UNLIKE);
        dueFinding(x, "turn of a sunk one", x.turn(3), UNLIKE);
        due("turn(2)", x.turn(2), 4);
        dueAsked(x, "state()", x.state(), 1, 4);

        promise = 19;
        makeLaw(x, 1, 7);
        TurnedStones y = townOf("g21 sabcd saaaa");
        makeLaw(y, 0, 2, 0);
        makeLaw(y, 1, 7);
        lays(y, 0, NONE, 0, 1, 0, 0);
        due("till it stands", y.till(0, 0), 4);
        dueAsked(y, "state()", y.state(), 6, 4);
        due("till, it stood ahead", y.till(0, 0), 0);
        dueAsked(y, "state()", y.state(), 6, 4);
        due("till, never", y.till(0, 1), NONE);
        dueAsked(y, "state()", y.state(), 1 + 2 * 4, 9);
        lays(y, 0, 0);
        due("till, behind the last", y.till(0, 0), 1);
        y.row(0, 0);
        due("till by no turns, it stands", y.till(0, 0), 0);
        due("till by no turns, never", y.till(0, 1), NONE);
        due("till(6, 0)", y.till(6, 0), BAD);
        due("till(0, 4)", y.till(0, 4), BAD);
        dueFinding(y, "till(0, 2)", y.till(0, 2), NOTHING);
        dueFinding(y, "till(3, 0)", y.till(3, 0), NOTHING);
        lays(y, 0, 0, 2);
        dueFinding(y, "till by no stone", y.till(0, 1), UNLIKE);
        lays(x, 0, 0, 1);
        dueFinding(x, "till by a fixed one", x.till(0, 1), UNLIKE);
        dueAsked(x, "nothing went by", x.state(), 1, 4);
        spentYears();
    }

    private static void spentYears() {
        TurnedStones x = townOf("g21 sabcd fabcd");
        makeLaw(x, 0, 7);
        makeLaw(x, 1, 0);
        x.row(0, 60);
        for (int i = 0; i < 16; i++) due("till of 60 years", x.till(0, 0), NONE);
        x.row(0, 40);
        promise = 19;
        due("till to more than 999", x.till(0, 0), SPENT);
        due("till to more than 999, though it stands", x.till(0, 1), SPENT);
        x.row(0, 38);
        due("till to 998", x.till(0, 0), NONE);
        dueAsked(x, "state()", x.state(), (960 + 38) % 4, 998);
        promise = 18;
        due("turn to 999", x.turn(NONE), 999);
        due("turn behind 999", x.turn(0), SPENT);
        due("turn(NONE) behind 999", x.turn(NONE), SPENT);
        due("turn(3) behind 999", x.turn(3), BAD);
        dueFinding(x, "turn of a fixed one behind 999", x.turn(1), UNLIKE);
        promise = 19;
        x.row(0, 0);
        due("till by no turns", x.till(0, 0), NONE);
        lays(x, 0, 1);
        dueFinding(x, "till by a fixed one", x.till(0, 0), UNLIKE);
    }

    private static void keeping() {
        promise = 20;
        TurnedStones x = new TurnedStones();
        due("keep without stones", x.keep(0), STATE);
        due("keep(3) without stones", x.keep(3), BAD);
        write(x, 0, "g11 sabcd");
        x.town(0);
        x.turn(0);
        due("keep(2)", x.keep(2), 1);
        x.turn(0);
        due("keep(0)", x.keep(0), 2);
        due("keep(-1)", x.keep(-1), BAD);
        x.turn(0);

        promise = 21;
        due("on(2)", x.on(2), 1);
        dueAsked(x, "state()", x.state(), 1, 1);
        due("on(0)", x.on(0), 2);
        dueAsked(x, "state()", x.state(), 2, 2);
        x.turn(0);
        due("on(0) again", x.on(0), 2);
        dueFinding(x, "on(1)", x.on(1), NOTHING);
        due("on(3)", x.on(3), BAD);
        due("on(-1)", x.on(-1), BAD);

        promise = 22;
        TurnedStones y = townOf("g32 saaaa saaaa saaaa saaaa saaaa haaaa");
        for (int i = 0; i < 3; i++) y.turn(4);
        y.turn(5);
        dueAsked(y, "state()", y.state(), 3 * 256 + 2 * 1024, 4);
    }

    private static void leastYears() {
        promise = 23;
        TurnedStones x = townOf("g31 sabcd sabcd hefgh");
        makeLaw(x, 0, 1, 2);
        makeLaw(x, 1, 4);
        makeLaw(x, 2, 6);
        dueAsked(x, "by two stones", x.years(1), 3, 1 + 2 * 4);
        dueAsked(x, "as it is", x.years(2), 0, 0);
        dueAsked(x, "no laws", x.years(0), 0, 0);
        dueAsked(x, "both words of the half one", x.years(6), 0, 0);
        x.turn(2);
        dueAsked(x, "by a half one", x.years(3), 3, 1 + 2 * 4 + 2 * 16);
        dueAsked(x, "no laws, as it is", x.years(0), 0, 32);
        due("a missing law", x.years(8), NONE);
        due("asked() stays", x.asked(), 32);
        due("years(16)", x.years(16), BAD);
        due("years(-1)", x.years(-1), BAD);
        TurnedStones two = townOf("g21 sabab sabab");
        makeLaw(two, 0, 0, 1);
        dueAsked(two, "the least of two states", two.years(1), 1, 1);
        two.turn(0);
        two.turn(0);
        two.turn(0);
        dueAsked(two, "by years first, then by states", two.years(1), 0, 3);
        makeLaw(two, 0, 1, 1);
        dueAsked(two, "columns are read, too", two.years(1), 1, 7);

        promise = 24;
        x = townOf("g31 fabcd hefgh sabcd");
        makeLaw(x, 0, 0, 6, 3);
        due("way(1, 0)", x.way(1, 0), 4);
        dueRow(x, "way", 0, 1, 2, 2, 2);
        dueAsked(x, "years(1)", x.years(1), 4, 2 * 4 + 3 * 16);
        makeLaw(x, 1, 3, 6);
        due("the way from the right", x.way(2, 0), 1);
        dueRow(x, "the way from the right", 0, 2);
        lays(x, 1, 7, 7);
        due("way(4, 1)", x.way(4, 1), NONE);
        dueRow(x, "never: nothing comes", 1, 7, 7);
        due("way(0, 1)", x.way(0, 1), 0);
        dueRow(x, "no turns", 1);
        due("way(16, 0)", x.way(16, 0), BAD);
        due("way(1, 6)", x.way(1, 6), BAD);

        promise = 25;
        x = townOf("g21 sabcd saaaa");
        makeLaw(x, 0, 2, 0);
        makeLaw(x, 1, 0, 0);
        makeLaw(x, 2, 0);
        makeLaw(x, 3, 7);
        dueAsked(x, "lost between, back at the end", x.lost(1), 0, 4);
        dueAsked(x, "lost(0)", x.lost(0), 0, 2 + 4);
        due("lost(8)", x.lost(8), NONE);
        due("asked() stays", x.asked(), 6);
        due("lost(16)", x.lost(16), BAD);
        TurnedStones back = townOf("g21 fabbb saabb");
        makeLaw(back, 0, 0, 1);
        makeLaw(back, 1, 0, 0);
        dueAsked(back, "lost(1)", back.lost(1), 2, 0);
    }

    private static void shares() {
        promise = 26;
        TurnedStones x = townOf("g21 sabcd habcd");
        makeLaw(x, 0, 0, 0);
        makeLaw(x, 1, 1, 1);
        dueFraction(x, "share(1)", x.share(1), 2, 1, 4);
        dueFraction(x, "share(0)", x.share(0), 8, 1, 1);
        dueFraction(x, "share(2)", x.share(2), 0, 0, 1);
        dueFraction(x, "share(4)", x.share(4), 0, 0, 1);
        x.share(1);
        due("share(16)", x.share(16), BAD);
        due("upper() stays", x.upper(), 1);
        due("lower() stays", x.lower(), 4);
        due("share without stones", new TurnedStones().share(0), STATE);
        due("share(-1) without stones", new TurnedStones().share(-1), BAD);

        promise = 27;
        dueAsked(x, "together()", x.together(), 1, 1);
        makeLaw(x, 2, 2);
        makeLaw(x, 3, 3);
        dueAsked(x, "together()", x.together(), 3, 13);
        TurnedStones y = townOf("g11 sabcd");
        makeLaw(y, 1, 0);
        makeLaw(y, 3, 1);
        dueAsked(y, "together()", y.together(), 2, 10);
        makeLaw(y, 0, 7);
        dueAsked(y, "together()", y.together(), 2, 10);
        TurnedStones none = new TurnedStones();
        dueAsked(none, "together() without stones", none.together(), 0, 0);
    }

    private static void mending() {
        promise = 28;
        TurnedStones x = townOf("g21 sabcd scccc");
        makeLaw(x, 0, 4, 2);
        makeLaw(x, 1, 0, 2);
        makeLaw(x, 2, 4, 5);
        dueAsked(x, "mend(0)", x.mend(0), 4, 0);
        x.turn(0);
        dueAsked(x, "mend(0) a turn later", x.mend(0), 4, 3);
        due("mend(1)", x.mend(1), STATE);
        due("mend(2)", x.mend(2), NONE);
        due("asked() stays", x.asked(), 3);
        due("mend(4)", x.mend(4), BAD);
        dueFinding(x, "mend(3)", x.mend(3), NOTHING);
        dueAsked(x, "state() stays", x.state(), 1, 1);
        dueAsked(x, "words stay", x.stone(0, 2), 1, 0);
        TurnedStones kinds = townOf("g21 uabcd fabcd");
        makeLaw(kinds, 0, 7);
        dueAsked(kinds, "not a sunk one, but a fixed one", kinds.mend(0), 107, 0);
        kinds = townOf("g11 xabcd0b");
        makeLaw(kinds, 0, 7);
        dueAsked(kinds, "not the worn side", kinds.mend(0), 17, 0);
        kinds = townOf("g11 cabcd0");
        makeLaw(kinds, 0, 7);
        dueAsked(kinds, "not the cut side", kinds.mend(0), 17, 0);
        kinds = townOf("g21 fabcd fefgh");
        makeLaw(kinds, 0, 0, 7);
        dueAsked(kinds, "the side that row 0 shows", kinds.mend(0), 107, 0);
        makeLaw(kinds, 0, 7, 4);
        dueAsked(kinds, "a word for the first stone", kinds.mend(0), 7, 0);
        kinds = townOf("g21 uabcd xabcd0h");
        makeLaw(kinds, 0, 0, 0);
        due("no two words beside a sunk one", kinds.mend(0), NONE);
    }

    private static void contests() {
        promise = 29;
        TurnedStones x = townOf("g31 saaaa sabcd saaaa");
        makeLaw(x, 0, 0, 1);
        makeLaw(x, 1, 0);
        makeLaw(x, 2, 7);
        dueAsked(x, "contest(0, 0)", x.contest(0, 0), 0, NONE);
        dueAsked(x, "contest(0, 1)", x.contest(0, 1), 1, 1);
        dueAsked(x, "contest(0, 2): the other one is last", x.contest(0, 2), 0, NONE);
        dueAsked(x, "contest(1, 0)", x.contest(1, 0), 1, NONE);
        dueAsked(x, "contest(1, 12)", x.contest(1, 12), 1, 0);
        dueAsked(x, "contest(2, 12)", x.contest(2, 12), 0, NONE);
        due("contest(0, 13)", x.contest(0, 13), BAD);
        due("contest(0, -1)", x.contest(0, -1), BAD);
        due("contest(4, 0)", x.contest(4, 0), BAD);
        dueFinding(x, "contest(3, 0)", x.contest(3, 0), NOTHING);
        TurnedStones fixed = townOf("g21 fabcd sefgh");
        makeLaw(fixed, 0, 0, 4);
        dueAsked(fixed, "none of the stones comes last", fixed.contest(0, 1), 1, NONE);
        dueAsked(fixed, "the other one turns away", fixed.contest(0, 2), 0, NONE);
        dueAsked(fixed, "the first one may let it be, the other one not", fixed.contest(0, 3), 0, NONE);
        due("the town stays", fixed.state(), 0);
        TurnedStones half = townOf("g21 fabcd hefgh");
        makeLaw(half, 0, 0, 4);
        dueAsked(half, "a half one can be turned back", half.contest(0, 3), 1, 1);
        dueAsked(half, "but not behind the other one", half.contest(0, 4), 0, NONE);
    }

    private static void engravings() {
        promise = 30;
        TurnedStones x = townOf("g32 sabcd sabcd sabcd sabcd sabcd sabcd");
        lays(x, 0, 0, 1, -1);
        lays(x, 1, 0, 7);
        lays(x, 2, 0, 8);
        lays(x, 3, 0, -2, 0);
        due("engrave(9, 0, 0, 0)", x.engrave(9, 0, 0, 0), 0);
        due("engrave(0, 4, 1, 1)", x.engrave(0, 4, 1, 1), 1);
        due("engrave(10, 0, 0, 0)", x.engrave(10, 0, 0, 0), BAD);
        due("engrave(-1, 0, 0, 0)", x.engrave(-1, 0, 0, 0), BAD);
        due("engrave(0, 5, 0, 0)", x.engrave(0, 5, 0, 0), BAD);
        due("engrave(0, -1, 0, 0)", x.engrave(0, -1, 0, 0), BAD);
        due("engrave(0, 0, 2, 0)", x.engrave(0, 0, 2, 0), BAD);
        due("engrave(0, 0, -1, 0)", x.engrave(0, 0, -1, 0), BAD);
        due("engrave(0, 0, 0, 6)", x.engrave(0, 0, 0, 6), BAD);
        dueFinding(x, "engrave(0, 0, 0, 4)", x.engrave(0, 0, 0, 4), NOTHING);
        dueFinding(x, "engrave(0, 0, 0, 2)", x.engrave(0, 0, 0, 2), SIZE);
        dueFinding(x, "engrave(0, 2, 0, 0)", x.engrave(0, 2, 0, 0), SIZE);
        dueFinding(x, "engrave(0, 2, 0, 2)", x.engrave(0, 2, 0, 2), UNLIKE);
        dueFinding(x, "engrave(0, 0, 0, 3)", x.engrave(0, 0, 0, 3), UNLIKE);
        due("engrave(1, 0, 1, 0)", x.engrave(1, 0, 1, 0), 2);
        due("engrave(1, 0, 1, 0)", x.engrave(1, 0, 1, 0), 3);
        due("a fifth", x.engrave(1, 0, 1, 0), FULL);
        dueFinding(x, "a fifth of no words", x.engrave(0, 0, 0, 3), UNLIKE);
        due("count(5)", x.count(5), 4);

        promise = 31;
        due("lose(5)", x.lose(5), BAD);
        due("lose(-1)", x.lose(-1), BAD);
        due("lose(4)", x.lose(4), 0);
        due("lose(1)", x.lose(1), 3);
        due("count(5)", x.count(5), 1);
        due("the next number", x.engrave(1, 0, 1, 0), 1);
        due("lose(0)", x.lose(0), 2);
        due("lose(0)", x.lose(0), 0);
        due("lose(1)", x.lose(1), BAD);
        due("without stones", new TurnedStones().engrave(0, 0, 0, 0), BAD);
    }

    private static void pasts() {
        promise = 32;
        TurnedStones x = townOf("g21 sabcd sabcd");
        dueFraction(x, "histories(9)", x.histories(9), 1, 19683, 1);
        dueFraction(x, "histories(0)", x.histories(0), 1, 1, 1);
        due("histories(10)", x.histories(10), BAD);
        due("histories(-1)", x.histories(-1), BAD);
        lays(x, 0, 1, 1);
        x.engrave(2, 0, 0, 0);
        dueFraction(x, "two ways to turn both", x.histories(2), 1, 2, 1);
        dueFraction(x, "a year more", x.histories(3), 1, 6, 1);
        dueFraction(x, "engravings of later years", x.histories(1), 1, 3, 1);
        x.turn(0);
        dueFraction(x, "from quarters 0, not from as it is", x.histories(2), 1, 2, 1);

        promise = 33;
        makeLaw(x, 0, 1, 1);
        makeLaw(x, 1, 1, 0);
        makeLaw(x, 2, 0, 0);
        dueAsked(x, "when(2, 0)", x.when(2, 0), 4, 4);
        dueAsked(x, "when(2, 1)", x.when(2, 1), 0, 2);
        dueAsked(x, "when(3, 0)", x.when(3, 0), 4, 4 + 8);
        dueAsked(x, "when(2, 2)", x.when(2, 2), 1, 1);
        due("when(10, 0)", x.when(10, 0), BAD);
        due("when(-1, 0)", x.when(-1, 0), BAD);
        due("when(2, 4)", x.when(2, 4), BAD);
        dueFinding(x, "when(2, 3)", x.when(2, 3), NOTHING);

        promise = 34;
        dueAsked(x, "turned(2, 1)", x.turned(2, 1), 3, 0);
        dueAsked(x, "turned(3, 3)", x.turned(3, 3), 3, 1);
        dueAsked(x, "turned(1, 1)", x.turned(1, 1), 3, 1);
        due("turned(2, 0)", x.turned(2, 0), BAD);
        due("turned(2, 3)", x.turned(2, 3), BAD);
        due("turned(10, 1)", x.turned(10, 1), BAD);
        due("turned(-1, 1)", x.turned(-1, 1), BAD);
        due("turned(0, 1)", x.turned(0, 1), BAD);
        lays(x, 0, 1, 0);
        x.engrave(1, 0, 0, 0);
        dueAsked(x, "only stone 1 is left", x.turned(2, 2), 2, 0);
        dueAsked(x, "only stone 0 came first", x.turned(2, 1), 1, 0);
        x.lose(1);

        promise = 35;
        dueFraction(x, "odds(2, 1, 1)", x.odds(2, 1, 1), 1, 1, 2);
        dueFraction(x, "odds(2, 2, 0)", x.odds(2, 2, 0), 1, 1, 1);
        dueFraction(x, "odds(2, 0, 0)", x.odds(2, 0, 0), 1, 0, 1);
        dueFraction(x, "odds(3, 3, 0)", x.odds(3, 3, 0), 1, 1, 3);
        dueFraction(x, "odds(1, 1, 2)", x.odds(1, 1, 2), 1, 1, 3);
        due("odds(10, 0, 0)", x.odds(10, 0, 0), BAD);
        due("odds(2, 3, 0)", x.odds(2, 3, 0), BAD);
        due("odds(2, -1, 0)", x.odds(2, -1, 0), BAD);
        due("odds(2, 2, 4)", x.odds(2, 2, 4), BAD);
        dueFinding(x, "odds(2, 2, 3)", x.odds(2, 2, 3), NOTHING);
        noHistories(x);
        wornEngraving();
    }

    private static void noHistories(TurnedStones x) {
        lays(x, 0, 7, 7);
        x.engrave(0, 0, 0, 0);
        promise = 32;
        dueFinding(x, "histories(0)", x.histories(0), NOUGHT);
        due("upper() stays", x.upper(), 1);
        due("lower() stays", x.lower(), 3);
        promise = 33;
        dueFinding(x, "when(0, 0)", x.when(0, 0), NOUGHT);
        dueFinding(x, "when(0, 3)", x.when(0, 3), NOTHING);
        promise = 34;
        dueFinding(x, "turned(1, 1)", x.turned(1, 1), NOUGHT);
        promise = 35;
        dueFinding(x, "odds(1, 1, 0)", x.odds(1, 1, 0), NOUGHT);
        dueFinding(x, "odds(1, 1, 3)", x.odds(1, 1, 3), NOTHING);
    }

    private static void wornEngraving() {
        promise = 32;
        TurnedStones x = townOf("g31 xabcd0h cabcd0 uabcd");
        lays(x, 0, 0, -1, -1);
        x.engrave(0, 0, 0, 0);
        dueFraction(x, "gaps of cut and sunk ones", x.histories(0), 1, 1, 1);
        lays(x, 0, 7, -1, -1);
        x.engrave(0, 0, 0, 0);
        dueFinding(x, "worn sides are read as laid", x.histories(0), NOUGHT);
        x.lose(0);
        due("three choices each year", x.histories(2), 1);
        due("nine histories", x.upper(), 9);
    }

    private static void living() {
        promise = 36;
        TurnedStones x = townOf("g11 fabcd");
        makeLaw(x, 0, 0);
        dueFraction(x, "at once", x.lives(1, 5), 0, 1, 1);
        TurnedStones y = townOf("g21 sabcd saaaa");
        makeLaw(y, 0, 2, 0);
        dueFraction(y, "lives(1, 10)", y.lives(1, 10), 2, 25, 36);
        dueFraction(y, "lives(1, 12)", y.lives(1, 12), 2, 1, 1);
        dueFraction(y, "lives(1, 1)", y.lives(1, 1), 2, 1, 144);
        due("lives(2, 1)", y.lives(2, 1), NONE);
        due("lives(1, 0)", y.lives(1, 0), BAD);
        due("lives(1, 13)", y.lives(1, 13), BAD);
        due("lives(16, 1)", y.lives(16, 1), BAD);
        due("upper() stays", y.upper(), 1);
        due("lower() stays", y.lower(), 144);
        longLives();
    }

    private static void longLives() {
        TurnedStones x = townOf("g32 sabcd sabce sabcf sabcg sabch sabcd");
        makeLaw(x, 0, 3, 4, 5);
        makeLaw(x, 1, 6, 7, 3);
        due("eighteen years", x.years(3), 18);
        due("more than 17 years", x.lives(3, 5), SPENT);
        due("more than 17 years, by all chances", x.lives(3, 12), SPENT);
        x.turn(5);
        dueFraction(x, "17 years", x.lives(3, 1), 17, 1, 2218611106740436992L);
        dueFraction(x, "17 years", x.lives(3, 11), 17, 505447028499293771L, 2218611106740436992L);
    }

    private static void told() {
        promise = 37;
        TurnedStones x = townOf("g21 sabcd fabcd");
        makeLaw(x, 0, 0);
        lays(x, 0, 4);
        dueAsked(x, "at(0, 0)", x.at(0, 0), 1, 4);
        x.reads(0, 0, 1);
        x.turn(0);
        x.till(0, 0);
        x.way(1, 1);
        x.keep(0);
        x.on(0);
        x.share(1);
        x.histories(2);
        x.odds(2, 1, 0);
        x.lives(1, 3);
        x.mark(1, 2);
        x.count(0);
        x.digest();
        due("asked() by calls that tell nothing", x.asked(), 4);
        x.at(0, 9);
        x.at(9, 0);
        x.years(8);
        x.lost(8);
        x.mend(0);
        due("asked() by refused calls", x.asked(), 4);

        promise = 38;
        x.share(1);
        long upper = x.upper();
        promise = 39;
        long lower = x.lower();
        x.years(1);
        x.share(16);
        x.lives(8, 1);
        x.odds(2, 3, 0);
        due("upper() stays", x.upper(), upper);
        due("lower() stays", x.lower(), lower);

        promise = 40;
        TurnedStones y = townOf("g32 sabcd xabcd0a cabcd0 fabcd uabcd habcd");
        makeLaw(y, 2, 1);
        y.reads(0, 0, 3);
        y.engrave(0, 0, 0, 3);
        int[] want = {6, 5, 1, 2, 2, 1, 1, 1};
        for (int what = 0; what < want.length; what++) due("count(" + what + ")", y.count(what), want[what]);
        due("count(8)", y.count(8), BAD);
        due("count(-1)", y.count(-1), BAD);

        promise = 41;
        TurnedStones z = new TurnedStones();
        due("finding()", z.finding(), 0);
        z.row(0, -1);
        z.row(9, 0);
        due("finding()", z.finding(), SIZE);
        z.at(0, 0);
        due("finding()", z.finding(), NOTHING);

        promise = 42;
        z.row(0, 0);
        z.mean(0);
        z.at(0, 0);
        z.at(0, 0);
        due("findings(1)", z.findings(NOTHING), 1);
        due("findings(2)", z.findings(BEYOND), 2);
        due("findings(3)", z.findings(UNLIKE), 0);
        due("findings(4)", z.findings(NOUGHT), 1);
        due("findings(5)", z.findings(SIZE), 1);
        due("findings(0)", z.findings(0), BAD);
        due("findings(6)", z.findings(6), BAD);
        due("finding() by BAD", z.finding(), BEYOND);
    }

    private static long fold(long h, long... values) {
        for (long v : values) h = 31 * h + v;
        return h;
    }

    private static void digests() {
        promise = 43;
        TurnedStones x = new TurnedStones();
        long h = fold(17, 0, 0, 0, 0, 0, 0, 0, 0, 0);
        h = fold(h, -1, -1, -1, -1, -1, -1, -1, -1, -1, -1, -1, -1, -1, -1, -1, -1, -1);
        due("digest() of a new object", x.digest(), h);
        x = townOf("g21 sabcd cabcd3");
        makeLaw(x, 1, 4, 5);
        x.turn(1);
        x.keep(1);
        x.turn(0);
        lays(x, 4, 2, -1);
        x.engrave(3, 0, 1, 4);
        x.put(0, 15, 200);
        h = fold(17, 2, 3, 1, 1, 0, 1, 1, 1, 2);
        h = fold(h, 0, 1, 0, 1, 2, 3, 4, 1, 0, 1, 2, -1);
        h = fold(h, -1, 2, 4, 5, -1, -1);
        h = fold(h, 3, 0, 1, 2, -1);
        h = fold(h, -1, 4, 1, -1);
        h = fold(h, -1, -1, -1, -1, 2, 2, -1, -1);
        h = fold(h, 16, 'g', '2', '1', ' ', 's', 'a', 'b', 'c', 'd', ' ', 'c', 'a', 'b', 'c', 'd', (byte) 200);
        h = fold(h, -1, -1, -1);
        due("digest()", x.digest(), h);
    }
}
