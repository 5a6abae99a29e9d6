/** One method a promise of the document, and one for the five examples of its description. */
public final class PromisesTest {
    private static final int INVALID = -1, IMPOSSIBLE = -2, EXCEEDED = -3, MISSING = -4;
    private static final int[] OUTSIDE = {-1, Integer.MIN_VALUE, Integer.MAX_VALUE, 1 << 30, -8};
    /** The concert of a new object. */
    private static final String FIRST =
        "s4;s5;s3;s6;s4;p0;p1;p0;k2,0;k1,1;k1,0;u0,0,0,0;u0,1,1,2;u1,0,0,3;u1,2,0,1;u2,1,1,0;u2,2,2,0;"
        + "u3,0,2,0;u3,1,0,0;u4,0,0,0;u4,1,1,2;u4,2,0,4;e4;";
    /** Everything at its greatest number: eight songs, five players, six kinds. */
    private static final String GREATEST =
        "s1;s2;s3;s4;s5;s6;s7;s20;p0;p1;p0;p1;p1;k5,0;k5,1;k1,0;k1,1;k2,0;k2,1;";

    private static int wrong = 0;
    private static String section = "";

    private static void due(String call, long got, long want) {
        if (got != want) {
            wrong++;
            System.out.println(section + ": " + call + " answered " + got + ", due is " + want);
        }
    }

    private static void write(SetlistPlanner x, String text) {
        for (int i = 0; i < text.length(); i++) {
            x.append(text.charAt(i));
        }
    }

    private static SetlistPlanner configured(String text) {
        SetlistPlanner x = new SetlistPlanner();
        write(x, text);
        if (x.configure() < 1) {
            wrong++;
            System.out.println(section + ": configure refused " + text);
        }
        return x;
    }

    private static void dueError(String text, int want) {
        SetlistPlanner x = new SetlistPlanner();
        write(x, text);
        due("firstError() of " + text, x.firstError(), want);
        due("length of " + text, x.clearText(), text.length());
    }

    /**
     * What can be asked about the state, so that two states can be compared; in some 110 calls for five songs, for
     * what an object answers after its 512th call is free.
     */
    private static String state(SetlistPlanner x) {
        StringBuilder all = new StringBuilder();
        int songs = x.songCount();
        all.append(songs).append(' ').append(x.orderCost()).append(' ').append(x.isAllowed()).append(' ');
        all.append(x.dearestChangeover()).append(' ').append(x.bestCost()).append(' ').append(x.bestOrderCount());
        for (int song = 0; song < songs; song++) {
            all.append("; ").append(x.songAt(song)).append(' ').append(x.bestSongAt(song)).append(' ').append(x.bestCostFrom(song));
            addParts(all, x, song);
            addSpareUnits(all, x, song);
            for (int other = 0; other < songs; other++) {
                all.append(' ').append(x.changeoverCost(song, other));
            }
        }
        for (int minutes : new int[] {1, 3, 4, 5, 6, 7, 8, 10, 160}) {
            all.append(' ').append(x.encoresWithin(minutes));
        }
        return all.toString();
    }

    private static void addParts(StringBuilder all, SetlistPlanner x, int song) {
        int kind = MISSING;
        for (int player = 0; player < 5 && kind != INVALID; player++) {
            kind = x.kindOf(song, player);
            all.append(' ').append(kind);
            if (kind >= 0) {
                all.append('/').append(x.tuningOf(song, player));
            }
        }
    }

    private static void addSpareUnits(StringBuilder all, SetlistPlanner x, int song) {
        int units = 0;
        for (int kind = 0; kind < 6 && units != INVALID; kind++) {
            units = x.spareUnits(song, kind);
            all.append(' ').append(units);
        }
    }

    private static void dueSame(String what, String got, String want) {
        if (!got.equals(want)) {
            wrong++;
            System.out.println(section + ": " + what + " is\n  " + got + "\n  due is\n  " + want);
        }
    }

    private static void dueOrder(SetlistPlanner x, int... songs) {
        for (int i = 0; i < songs.length; i++) {
            due("songAt(" + i + ")", x.songAt(i), songs[i]);
        }
    }

    private static void dueBestOrder(SetlistPlanner x, int... songs) {
        for (int i = 0; i < songs.length; i++) {
            due("bestSongAt(" + i + ")", x.bestSongAt(i), songs[i]);
        }
    }

    private static void examples() {
        section = "example 1";
        SetlistPlanner x = new SetlistPlanner();
        due("changeOf(0, 0, 1)", x.changeOf(0, 0, 1), 5);
        due("changeCost(0, 0, 1)", x.changeCost(0, 0, 1), 5);
        due("changeOf(0, 1, 2)", x.changeOf(0, 1, 2), 2);
        due("changeoverCost(0, 1)", x.changeoverCost(0, 1), 7);
        due("orderCost()", x.orderCost(), 26);
        section = "example 2";
        x = new SetlistPlanner();
        due("bestCost()", x.bestCost(), 16);
        due("bestSongAt(0)", x.bestSongAt(0), 3);
        due("bestSongAt(4)", x.bestSongAt(4), 4);
        due("bestOrderCount()", x.bestOrderCount(), 1);
        due("adoptBest()", x.adoptBest(), 16);
        due("isAllowed()", x.isAllowed(), 1);
        section = "example 3";
        x = new SetlistPlanner();
        due("setEncore(2, 1)", x.setEncore(2, 1), 0);
        due("encoresWithin(6)", x.encoresWithin(6), 16);
        due("encoresWithin(7)", x.encoresWithin(7), 20);
        due("encoresWithin(2)", x.encoresWithin(2), 0);
        section = "example 4";
        x = new SetlistPlanner();
        due("pin(0, 4)", x.pin(0, 4), 1);
        due("bestCost()", x.bestCost(), MISSING);
        due("pin(1, 4)", x.pin(1, 4), IMPOSSIBLE);
        due("unpin(2)", x.unpin(2), MISSING);
        section = "example 5";
        x = new SetlistPlanner();
        due("setUnits(0, 1)", x.setUnits(0, 1), IMPOSSIBLE);
        due("setPart(0, 1, 0, 1)", x.setPart(0, 1, 0, 1), 2);
        due("setPart(0, 2, 0, 1)", x.setPart(0, 2, 0, 1), IMPOSSIBLE);
        due("spareUnits(0, 0)", x.spareUnits(0, 0), 0);
        due("removePart(0, 2)", x.removePart(0, 2), MISSING);
    }

    private static void promise1() {
        section = "promise 1";
        SetlistPlanner x = new SetlistPlanner();
        due("clearText()", x.clearText(), 0);
        due("undo()", x.undo(), IMPOSSIBLE);
        due("songCount()", x.songCount(), 5);
        dueSame("a new object", state(x), state(configured(FIRST)));
        dueOrder(x, 0, 1, 2, 3, 4);
        int[][] parts = {{0, 0, 1, 2, -4, -4}, {0, 3, -4, -4, 0, 1}, {-4, -4, 1, 0, 2, 0}, {2, 0, 0, 0, -4, -4}, {0, 0, 1, 2, 0, 4}};
        for (int song = 0; song < 5; song++) {
            for (int player = 0; player < 3; player++) {
                due("kindOf(" + song + ", " + player + ")", x.kindOf(song, player), parts[song][2 * player]);
                due("tuningOf(" + song + ", " + player + ")", x.tuningOf(song, player), parts[song][2 * player + 1]);
            }
            due("unpin(" + song + ")", x.unpin(song), MISSING);
            due("setEncore(" + song + ", 1)", x.setEncore(song, 1), song == 4 ? 1 : 0);
        }
        int[] times = {4, 5, 3, 6, 4};
        for (int song = 0; song < 5; song++) {
            SetlistPlanner y = new SetlistPlanner();
            y.setEncore(4, 0);
            y.setEncore(song, 1);
            due("time just under that of song " + song, y.encoresWithin(times[song] - 1), 0);
            due("time of song " + song, y.encoresWithin(times[song]), 1 << song);
        }
        int[] units = {2, 1, 1};
        for (int kind = 0; kind < 3; kind++) {
            due("setUnits(" + kind + ", 5)", new SetlistPlanner().setUnits(kind, 5), units[kind]);
        }
        SetlistPlanner changed = new SetlistPlanner();
        changed.setPart(0, 0, 2, 5);
        changed.moveSong(0, 4);
        dueSame("an object made after another one changed", state(new SetlistPlanner()), state(configured(FIRST)));
    }

    private static void promise2() {
        section = "promise 2";
        SetlistPlanner x = new SetlistPlanner();
        due("append(31)", x.append(31), INVALID);
        due("append(127)", x.append(127), INVALID);
        due("append(32)", x.append(32), 1);
        due("append(126)", x.append(126), 2);
        due("append('s' + 65536)", x.append('s' + 65536), INVALID);
        for (int character : OUTSIDE) {
            due("append(" + character + ")", x.append(character), INVALID);
        }
        for (int length = 3; length <= 300; length++) {
            due("append(59)", x.append(59), length);
        }
        due("append(59) to 300", x.append(59), EXCEEDED);
        due("append(31) to 300", x.append(31), INVALID);
        due("clearText()", x.clearText(), 300);
        due("append(115) after clearText", x.append(115), 1);
        due("append(52) after clearText", x.append(52), 2);
        due("append(59) after clearText", x.append(59), 3);
        due("firstError()", x.firstError(), MISSING);
    }

    private static void promise3() {
        section = "promise 3";
        SetlistPlanner x = new SetlistPlanner();
        due("clearText()", x.clearText(), 0);
        write(x, "s4;p0;k1,0;");
        due("clearText()", x.clearText(), 11);
        due("clearText() again", x.clearText(), 0);
        due("configure()", x.configure(), IMPOSSIBLE);
        due("firstError()", x.firstError(), MISSING);
        due("songCount()", x.songCount(), 5);
        write(x, "p0;k1,0;s4;s3;");
        due("configure()", x.configure(), 2);
        due("clearText()", x.clearText(), 14);
        due("songCount()", x.songCount(), 2);
    }

    private static void promise4Forms() {
        section = "promise 4, forms";
        dueError("", MISSING);
        dueError(FIRST, MISSING);
        dueError("s", 0);
        dueError("s4", 0);
        dueError("s;", 0);
        dueError(";", 0);
        dueError("s4;;", 3);
        dueError("4;", 0);
        dueError(",4;", 0);
        dueError("S4;", 0);
        dueError("x4;", 0);
        dueError("t4;", 0);
        dueError(" s4;", 0);
        dueError("s 4;", 0);
        dueError("s4 ;", 0);
        dueError("s4; ", 3);
        dueError("s+4;", 0);
        dueError("s-4;", 0);
        dueError("s4:", 0);
        dueError("s4/;", 0);
        dueError("ss4;", 0);
        dueError("s4,;", 0);
        dueError("s,4;", 0);
        dueError("s4,1;", 0);
        dueError("s4;p0,0;", 3);
        dueError("s4;p0;k1;", 6);
        dueError("s4;p0;k1,0,0;", 6);
        dueError("s4;p0;k1,,0;", 6);
        dueError("s4;p0;k,1,0;", 6);
        dueError("s4;p0;k1,0;u0,0,0;", 11);
        dueError("s4;p0;k1,0;u0,0,0,0,0;", 11);
        dueError("s4;p0;k1,0;u0,0,0,0", 11);
        dueError("s4;p0;k1,0;u0,0,0,0;e;", 20);
        dueError("s4;p0;k1,0;u0,0,0,0;e0,0;", 20);
        dueError("s4;s4", 3);
        dueError("s4;x;y;", 3);
        dueError("s04;p01;k05,00;u00,00,00,05;e00;", MISSING);
        dueError("s004;", 0);
        dueError("s4;p000;", 3);
        dueError("s10;s20;s09;s01;", MISSING);
        dueError("s12345678901234567890;", 0);
        dueError("s4294967300;", 0);
    }

    private static void promise4Ranges() {
        section = "promise 4, ranges";
        dueError("s0;", 0);
        dueError("s00;", 0);
        dueError("s20;", MISSING);
        dueError("s21;", 0);
        dueError("s99;", 0);
        dueError("p0;p1;", MISSING);
        dueError("p0;p2;", 3);
        dueError("p10;", 0);
        dueError("k1,0;k5,1;", MISSING);
        dueError("k0,0;", 0);
        dueError("k6,0;", 0);
        dueError("k1,2;", 0);
        dueError("k10,0;", 0);
        dueError("u0,0,0,0;", 0);
        dueError("p0;k1,0;u0,0,0,0;s4;", 8);
        dueError("s4;k1,0;u0,0,0,0;p0;", 8);
        dueError("s4;p0;u0,0,0,0;k1,0;", 6);
        dueError("s4;p0;k1,0;u0,0,0,5;", MISSING);
        dueError("s4;p0;k1,0;u0,0,0,6;", 11);
        dueError("s4;p0;k1,0;u1,0,0,0;", 11);
        dueError("s4;p0;k1,0;u0,1,0,0;", 11);
        dueError("s4;p0;k1,0;u0,0,1,0;", 11);
        dueError("e0;s4;", 0);
        dueError("s4;e1;s4;", 3);
        dueError("s4;e0;s4;e1;e0;", MISSING);
        dueError("s1;s1;s1;s1;s1;s1;s1;s1;", MISSING);
        dueError("s1;s1;s1;s1;s1;s1;s1;s1;s1;", 24);
        dueError("p0;p0;p0;p0;p0;", MISSING);
        dueError("p0;p0;p0;p0;p0;p0;", 15);
        dueError("k1,0;k1,0;k1,0;k1,0;k1,0;k1,0;", MISSING);
        dueError("k1,0;k1,0;k1,0;k1,0;k1,0;k1,0;k1,0;", 30);
        dueError("s1;s1;s1;s1;s1;s1;s1;s1;e7;e8;", 27);
        dueError(GREATEST + "u7,4,5,5;u7,4,0,0;e7;", MISSING);
        dueError(GREATEST + "u8,4,5,5;", GREATEST.length());
        dueError(GREATEST + "u7,5,5,5;", GREATEST.length());
        dueError(GREATEST + "u7,4,6,5;", GREATEST.length());
    }

    private static void promise4Units() {
        section = "promise 4, units";
        String start = "s1;s1;p0;p0;p0;k1,0;k2,0;";
        dueError(start + "u0,0,0,0;u0,1,0,0;", start.length() + 9);
        dueError(start + "u0,0,0,0;u0,0,0,1;", MISSING);
        dueError(start + "u0,0,0,0;u1,1,0,0;", MISSING);
        dueError(start + "u0,0,0,0;u0,0,1,1;u0,1,0,1;", MISSING);
        dueError(start + "u0,0,1,0;u0,1,1,0;u0,2,1,0;", start.length() + 18);
        dueError(start + "u0,0,1,0;u0,1,1,0;u0,1,0,0;u0,2,1,0;", MISSING);
        SetlistPlanner x = new SetlistPlanner();
        write(x, "s4;p0;k1,0;u0,0,0,6;");
        String before = state(x);
        due("firstError()", x.firstError(), 11);
        due("firstError() again", x.firstError(), 11);
        dueSame("the state after firstError", state(x), before);
    }

    private static void promise5() {
        section = "promise 5";
        String[] incomplete = {"", "s1;", "s1;p0;", "s1;k1,0;", "p0;k1,0;", "s1;p0;k1,0;x", "s1;p0;k1,0;u0,0,0,6;", "s1;p0;k1,0"};
        for (String text : incomplete) {
            SetlistPlanner x = new SetlistPlanner();
            x.pin(1, 1);
            x.moveSong(1, 3);
            write(x, text);
            String before = state(x);
            due("configure() of " + text, x.configure(), IMPOSSIBLE);
            dueSame("the state after a configure that is not possible", state(x), before);
            due("undo()", x.undo(), 1);
            due("clearText()", x.clearText(), text.length());
        }
        SetlistPlanner x = new SetlistPlanner();
        x.pin(1, 1);
        x.pin(0, 4);
        x.moveSong(0, 3);
        String text = "s1;s1;p0;k1,0;u1,0,0,2;u1,0,0,3;e1;";
        write(x, text);
        due("configure()", x.configure(), 2);
        due("undo()", x.undo(), IMPOSSIBLE);
        due("songCount()", x.songCount(), 2);
        due("unpin(0)", x.unpin(0), MISSING);
        due("unpin(1)", x.unpin(1), MISSING);
        due("tuningOf(1, 0)", x.tuningOf(1, 0), 3);
        due("kindOf(0, 0)", x.kindOf(0, 0), MISSING);
        dueOrder(x, 0, 1, INVALID);
        due("encoresWithin(1)", x.encoresWithin(1), 2);
        x.moveSong(0, 1);
        x.setEncore(1, 0);
        x.removePart(1, 0);
        due("configure() again", x.configure(), 2);
        dueOrder(x, 0, 1);
        due("tuningOf(1, 0)", x.tuningOf(1, 0), 3);
        due("setEncore(1, 0)", x.setEncore(1, 0), 1);
        due("clearText()", x.clearText(), text.length());
        due("songCount() with the text cleared", x.songCount(), 2);
        SetlistPlanner again = configured("s1;s1;s1;s1;s1;p0;k1,0;u0,0,0,0;u2,0,0,0;u4,0,0,0;");
        due("bestCost() before configure", again.bestCost(), 1);
        again.clearText();
        write(again, "s1;s1;s1;p0;k1,1;u1,0,0,0;u2,0,0,5;");
        due("configure() with fewer songs", again.configure(), 3);
        dueSame("the state after another concert was asked", state(again), state(configured("s1;s1;s1;p0;k1,1;u1,0,0,0;u2,0,0,5;")));
        again.clearText();
        write(again, FIRST);
        due("configure() with more songs", again.configure(), 5);
        dueSame("the state after another concert was asked", state(again), state(configured(FIRST)));
        due("configure() of the greatest", configured(GREATEST + "u7,4,5,5;e7;").songCount(), 8);
        SetlistPlanner sides = configured("s1;s1;p1;p0;k1,0;k1,1;u0,0,0,0;u0,1,1,0;");
        due("changeCost(0, 0, 1)", sides.changeCost(0, 0, 1), 2);
        due("changeCost(1, 0, 1)", sides.changeCost(1, 0, 1), 2);
    }

    private static void promise6() {
        section = "promise 6";
        SetlistPlanner x = new SetlistPlanner();
        String before = state(x);
        for (int bad : OUTSIDE) {
            due("setPart(bad, 0, 0, 0)", x.setPart(bad, 0, 0, 0), INVALID);
            due("setPart(0, bad, 0, 0)", x.setPart(0, bad, 0, 0), INVALID);
            due("setPart(0, 0, bad, 0)", x.setPart(0, 0, bad, 0), INVALID);
            due("setPart(0, 0, 0, bad)", x.setPart(0, 0, 0, bad), INVALID);
        }
        due("setPart(5, 0, 0, 0)", x.setPart(5, 0, 0, 0), INVALID);
        due("setPart(0, 3, 0, 0)", x.setPart(0, 3, 0, 0), INVALID);
        due("setPart(0, 0, 3, 0)", x.setPart(0, 0, 3, 0), INVALID);
        due("setPart(0, 0, 0, 6)", x.setPart(0, 0, 0, 6), INVALID);
        due("setPart(0, 2, 1, 6)", x.setPart(0, 2, 1, 6), INVALID);
        due("setPart(0, 2, 1, 0)", x.setPart(0, 2, 1, 0), IMPOSSIBLE);
        due("setPart(1, 1, 0, 0)", x.setPart(1, 1, 0, 0), IMPOSSIBLE);
        dueSame("the state after refused parts", state(x), before);
        due("undo()", x.undo(), IMPOSSIBLE);
        due("setPart(1, 0, 0, 5)", x.setPart(1, 0, 0, 5), 2);
        due("tuningOf(1, 0)", x.tuningOf(1, 0), 5);
        due("setPart(1, 0, 1, 4)", x.setPart(1, 0, 1, 4), 1);
        due("kindOf(1, 0)", x.kindOf(1, 0), 1);
        due("setPart(1, 1, 0, 0)", x.setPart(1, 1, 0, 0), 2);
        due("kindOf(1, 2)", x.kindOf(1, 2), 0);
        due("kindOf(0, 0)", x.kindOf(0, 0), 0);
        due("undo()", x.undo(), 2);
        due("kindOf(1, 1)", x.kindOf(1, 1), MISSING);
        due("undo()", x.undo(), 1);
        due("undo()", x.undo(), 0);
        dueSame("the state after all is undone", state(x), before);
        SetlistPlanner y = configured(GREATEST);
        for (int player = 0; player < 5; player++) {
            due("setPart(7, " + player + ", 0, 5)", y.setPart(7, player, 0, 5), player + 1);
        }
        due("setPart(7, 4, 0, 0)", y.setPart(7, 4, 0, 0), 5);
        due("setPart(7, 4, 5, 0)", y.setPart(7, 4, 5, 0), 1);
    }

    private static void promise7() {
        section = "promise 7";
        SetlistPlanner x = new SetlistPlanner();
        String before = state(x);
        for (int bad : OUTSIDE) {
            due("removePart(bad, 0)", x.removePart(bad, 0), INVALID);
            due("removePart(0, bad)", x.removePart(0, bad), INVALID);
        }
        due("removePart(5, 0)", x.removePart(5, 0), INVALID);
        due("removePart(0, 3)", x.removePart(0, 3), INVALID);
        due("removePart(2, 0)", x.removePart(2, 0), MISSING);
        dueSame("the state after refused removals", state(x), before);
        due("undo()", x.undo(), IMPOSSIBLE);
        due("removePart(2, 2)", x.removePart(2, 2), 2);
        due("kindOf(2, 2)", x.kindOf(2, 2), MISSING);
        due("tuningOf(2, 2)", x.tuningOf(2, 2), MISSING);
        due("removePart(2, 2) again", x.removePart(2, 2), MISSING);
        due("removePart(4, 1)", x.removePart(4, 1), 1);
        due("spareUnits(4, 1)", x.spareUnits(4, 1), 1);
        due("kindOf(4, 0)", x.kindOf(4, 0), 0);
        due("undo()", x.undo(), 1);
        due("tuningOf(4, 1)", x.tuningOf(4, 1), 2);
        due("undo()", x.undo(), 0);
        dueSame("the state after all is undone", state(x), before);
    }

    private static void promise8() {
        section = "promise 8";
        SetlistPlanner x = new SetlistPlanner();
        String before = state(x);
        for (int bad : OUTSIDE) {
            due("setUnits(bad, 1)", x.setUnits(bad, 1), INVALID);
            due("setUnits(0, bad)", x.setUnits(0, bad), INVALID);
        }
        due("setUnits(3, 1)", x.setUnits(3, 1), INVALID);
        due("setUnits(0, 0)", x.setUnits(0, 0), INVALID);
        due("setUnits(0, 6)", x.setUnits(0, 6), INVALID);
        due("setUnits(0, 1)", x.setUnits(0, 1), IMPOSSIBLE);
        dueSame("the state after refused units", state(x), before);
        due("undo()", x.undo(), IMPOSSIBLE);
        due("setUnits(0, 5)", x.setUnits(0, 5), 2);
        due("setUnits(0, 2)", x.setUnits(0, 2), 5);
        due("setUnits(2, 3)", x.setUnits(2, 3), 1);
        due("spareUnits(2, 2)", x.spareUnits(2, 2), 2);
        due("spareUnits(2, 1)", x.spareUnits(2, 1), 0);
        due("undo()", x.undo(), 2);
        due("spareUnits(2, 2)", x.spareUnits(2, 2), 0);
        x.removePart(1, 0);
        due("setUnits(0, 1) with song 4 against it", x.setUnits(0, 1), IMPOSSIBLE);
        x.removePart(4, 2);
        due("setUnits(0, 1) with one player a song", x.setUnits(0, 1), 2);
        due("setPart(4, 2, 0, 0)", x.setPart(4, 2, 0, 0), IMPOSSIBLE);
        for (int song = 0; song < 8; song++) {
            SetlistPlanner y = configured(GREATEST + "u" + song + ",0,0,0;u" + song + ",4,0,0;");
            due("setUnits(0, 1) with song " + song + " against it", y.setUnits(0, 1), IMPOSSIBLE);
            due("setUnits(0, 2) with song " + song + " just for it", y.setUnits(0, 2), 5);
        }
    }

    private static void promise9() {
        section = "promise 9";
        SetlistPlanner x = new SetlistPlanner();
        String before = state(x);
        for (int bad : OUTSIDE) {
            due("pin(bad, 0)", x.pin(bad, 0), INVALID);
            due("pin(0, bad)", x.pin(0, bad), INVALID);
        }
        due("pin(5, 0)", x.pin(5, 0), INVALID);
        due("pin(0, 5)", x.pin(0, 5), INVALID);
        dueSame("the state after refused pins", state(x), before);
        due("undo()", x.undo(), IMPOSSIBLE);
        due("pin(0, 2)", x.pin(0, 2), 1);
        due("bestSongAt(2)", x.bestSongAt(2), 0);
        due("pin(1, 2)", x.pin(1, 2), IMPOSSIBLE);
        due("pin(5, 2)", x.pin(5, 2), INVALID);
        due("pin(0, 2) again", x.pin(0, 2), 1);
        due("pin(0, 3)", x.pin(0, 3), 1);
        due("pin(1, 2)", x.pin(1, 2), 2);
        due("pin(2, 0)", x.pin(2, 0), 3);
        due("pin(0, 0)", x.pin(0, 0), IMPOSSIBLE);
        dueBestOrder(x, 2, 3, 1, 0, 4);
        dueOrder(x, 0, 1, 2, 3, 4);
        due("undo()", x.undo(), 4);
        due("undo()", x.undo(), 3);
        due("undo()", x.undo(), 2);
        due("unpin(0)", x.unpin(0), 2);
        due("pin(1, 2) where the pin is removed", x.pin(1, 2), 1);
    }

    private static void promise10() {
        section = "promise 10";
        SetlistPlanner x = new SetlistPlanner();
        for (int bad : OUTSIDE) {
            due("unpin(bad)", x.unpin(bad), INVALID);
        }
        due("unpin(5)", x.unpin(5), INVALID);
        due("unpin(4)", x.unpin(4), MISSING);
        due("undo()", x.undo(), IMPOSSIBLE);
        String before = state(x);
        x.pin(0, 3);
        x.pin(1, 0);
        String pinned = state(x);
        due("unpin(2)", x.unpin(2), MISSING);
        due("unpin(1)", x.unpin(1), 0);
        due("unpin(1) again", x.unpin(1), MISSING);
        due("bestSongAt(3)", x.bestSongAt(3), 0);
        due("unpin(0)", x.unpin(0), 3);
        dueSame("the state without pins", state(x), before);
        due("undo()", x.undo(), 3);
        due("undo()", x.undo(), 2);
        dueSame("the state with the pins again", state(x), pinned);
        due("unpin(1)", x.unpin(1), 0);
    }

    private static void promise11() {
        section = "promise 11";
        SetlistPlanner x = new SetlistPlanner();
        String before = state(x);
        for (int bad : OUTSIDE) {
            due("setEncore(bad, 0)", x.setEncore(bad, 0), INVALID);
            due("setEncore(0, bad)", x.setEncore(0, bad), INVALID);
        }
        due("setEncore(5, 1)", x.setEncore(5, 1), INVALID);
        due("setEncore(0, 2)", x.setEncore(0, 2), INVALID);
        dueSame("the state after refused encores", state(x), before);
        due("undo()", x.undo(), IMPOSSIBLE);
        due("setEncore(0, 1)", x.setEncore(0, 1), 0);
        due("setEncore(0, 1) again", x.setEncore(0, 1), 1);
        due("setEncore(4, 0)", x.setEncore(4, 0), 1);
        due("setEncore(4, 0) again", x.setEncore(4, 0), 0);
        due("encoresWithin(160)", x.encoresWithin(160), 1);
        due("bestSongAt(4)", x.bestSongAt(4), 0);
        due("undo()", x.undo(), 3);
        due("undo()", x.undo(), 2);
        due("encoresWithin(160)", x.encoresWithin(160), 17);
        due("undo()", x.undo(), 1);
        due("undo()", x.undo(), 0);
        dueSame("the state after all is undone", state(x), before);
        SetlistPlanner y = configured(GREATEST);
        due("setEncore(7, 1)", y.setEncore(7, 1), 0);
        due("setEncore(7, 0)", y.setEncore(7, 0), 1);
    }

    private static void promise12() {
        section = "promise 12";
        SetlistPlanner x = new SetlistPlanner();
        for (int bad : OUTSIDE) {
            due("moveSong(bad, 0)", x.moveSong(bad, 0), INVALID);
            due("moveSong(0, bad)", x.moveSong(0, bad), INVALID);
        }
        due("moveSong(5, 0)", x.moveSong(5, 0), INVALID);
        due("moveSong(0, 5)", x.moveSong(0, 5), INVALID);
        due("undo()", x.undo(), IMPOSSIBLE);
        dueOrder(x, 0, 1, 2, 3, 4);
        due("moveSong(0, 4)", x.moveSong(0, 4), 0);
        dueOrder(x, 1, 2, 3, 4, 0);
        due("moveSong(3, 1)", x.moveSong(3, 1), 4);
        dueOrder(x, 1, 4, 2, 3, 0);
        due("moveSong(2, 2)", x.moveSong(2, 2), 2);
        dueOrder(x, 1, 4, 2, 3, 0);
        due("moveSong(1, 2)", x.moveSong(1, 2), 4);
        dueOrder(x, 1, 2, 4, 3, 0);
        due("undo()", x.undo(), 3);
        due("undo()", x.undo(), 2);
        dueOrder(x, 1, 4, 2, 3, 0);
        due("undo()", x.undo(), 1);
        due("undo()", x.undo(), 0);
        dueOrder(x, 0, 1, 2, 3, 4);
        x.pin(0, 0);
        due("moveSong(0, 1) of a pinned song", x.moveSong(0, 1), 0);
        dueOrder(x, 1, 0, 2, 3, 4);
        due("isAllowed()", x.isAllowed(), 0);
        SetlistPlanner y = configured(GREATEST);
        due("moveSong(0, 7) of eight", y.moveSong(0, 7), 0);
        dueOrder(y, 1, 2, 3, 4, 5, 6, 7, 0);
        due("moveSong(7, 0) of eight", y.moveSong(7, 0), 0);
        dueOrder(y, 0, 1, 2, 3, 4, 5, 6, 7);
        due("adoptBest() of eight", y.adoptBest(), 0);
        dueOrder(y, 0, 1, 2, 3, 4, 5, 6, 7, INVALID);
    }

    private static void promise13() {
        section = "promise 13";
        SetlistPlanner x = new SetlistPlanner();
        due("adoptBest()", x.adoptBest(), 16);
        dueOrder(x, 3, 2, 1, 0, 4);
        due("orderCost()", x.orderCost(), 16);
        due("adoptBest() again", x.adoptBest(), 16);
        due("undo()", x.undo(), 1);
        dueOrder(x, 3, 2, 1, 0, 4);
        due("undo()", x.undo(), 0);
        dueOrder(x, 0, 1, 2, 3, 4);
        x.pin(4, 0);
        String before = state(x);
        due("adoptBest() without an allowed order", x.adoptBest(), MISSING);
        dueSame("the state after adoptBest found none", state(x), before);
        due("undo()", x.undo(), 0);
        due("undo()", x.undo(), IMPOSSIBLE);
        SetlistPlanner y = configured("s1;p0;k1,0;");
        due("adoptBest() of one song", y.adoptBest(), 0);
        dueOrder(y, 0, INVALID);
        due("undo()", y.undo(), 0);
    }

    /** An object behind the first of eight edits, one of each method that edits. */
    private static SetlistPlanner edited(int edits) {
        SetlistPlanner x = new SetlistPlanner();
        for (int edit = 0; edit < edits; edit++) {
            switch (edit) {
                case 0 -> due("setPart(0, 2, 0, 3)", x.setPart(0, 2, 0, 3), 2);
                case 1 -> due("removePart(3, 0)", x.removePart(3, 0), 2);
                case 2 -> due("setUnits(0, 4)", x.setUnits(0, 4), 2);
                case 3 -> due("pin(2, 1)", x.pin(2, 1), 1);
                case 4 -> due("setEncore(3, 1)", x.setEncore(3, 1), 0);
                case 5 -> due("moveSong(4, 1)", x.moveSong(4, 1), 4);
                case 6 -> due("adoptBest()", x.adoptBest(), x.orderCost());
                default -> due("unpin(2)", x.unpin(2), 1);
            }
        }
        return x;
    }

    private static void promise14() {
        section = "promise 14";
        due("undo()", new SetlistPlanner().undo(), IMPOSSIBLE);
        for (int edits = 1; edits <= 8; edits++) {
            SetlistPlanner x = edited(edits);
            write(x, "s1;p0");
            int most = Math.min(edits, 5);
            for (int undos = 1; undos <= most; undos++) {
                due("undo() " + undos + " of " + edits + " edits", x.undo(), most - undos);
                SetlistPlanner undone = edited(edits);
                for (int i = 0; i < undos; i++) {
                    undone.undo();
                }
                dueSame("the state after " + undos + " of " + edits + " edits are undone", state(undone), state(edited(edits - undos)));
            }
            due("undo() behind the last", x.undo(), IMPOSSIBLE);
            dueSame("the state with nothing to undo", state(x), state(edited(edits - most)));
            due("clearText()", x.clearText(), 5);
        }
        SetlistPlanner x = new SetlistPlanner();
        x.moveSong(0, 1);
        due("undo() after a new edit", x.undo(), 0);
        x.pin(2, 1);
        x.pin(2, 2);
        due("undo()", x.undo(), 1);
        x.pin(2, 3);
        due("undo() of the newest", x.undo(), 1);
        due("unpin(2)", x.unpin(2), 1);
        write(x, FIRST);
        x.configure();
        due("undo() after configure", x.undo(), IMPOSSIBLE);
        for (int i = 0; i < 40; i++) {
            due("moveSong(0, 0)", x.moveSong(0, 0), 0);
        }
        due("undo() after 40 edits", x.undo(), 4);
        due("setUnits(0, 1)", x.setUnits(0, 1), IMPOSSIBLE);
        due("undo() after a refused edit", x.undo(), 3);
    }

    private static void promises15To18() {
        section = "promise 15";
        SetlistPlanner x = new SetlistPlanner();
        SetlistPlanner y = configured(GREATEST + "u7,4,5,5;u7,3,5,4;u0,0,0,0;");
        due("songCount()", x.songCount(), 5);
        due("songCount()", y.songCount(), 8);
        due("songCount()", configured("s20;k1,1;p1;").songCount(), 1);
        section = "promises 16 and 17";
        due("kindOf(7, 4)", y.kindOf(7, 4), 5);
        due("tuningOf(7, 4)", y.tuningOf(7, 4), 5);
        due("tuningOf(7, 3)", y.tuningOf(7, 3), 4);
        due("kindOf(0, 0)", y.kindOf(0, 0), 0);
        due("tuningOf(0, 0)", y.tuningOf(0, 0), 0);
        due("kindOf(0, 4)", y.kindOf(0, 4), MISSING);
        due("tuningOf(0, 4)", y.tuningOf(0, 4), MISSING);
        due("kindOf(8, 0)", y.kindOf(8, 0), INVALID);
        due("kindOf(0, 5)", y.kindOf(0, 5), INVALID);
        due("tuningOf(8, 0)", y.tuningOf(8, 0), INVALID);
        due("tuningOf(0, 5)", y.tuningOf(0, 5), INVALID);
        due("kindOf(5, 0)", x.kindOf(5, 0), INVALID);
        due("kindOf(0, 3)", x.kindOf(0, 3), INVALID);
        section = "promise 18";
        due("spareUnits(7, 5)", y.spareUnits(7, 5), 0);
        due("spareUnits(0, 0)", y.spareUnits(0, 0), 4);
        due("spareUnits(1, 0)", y.spareUnits(1, 0), 5);
        due("spareUnits(1, 6)", y.spareUnits(1, 6), INVALID);
        due("spareUnits(8, 0)", y.spareUnits(8, 0), INVALID);
        due("spareUnits(0, 3)", x.spareUnits(0, 3), INVALID);
        due("spareUnits(5, 0)", x.spareUnits(5, 0), INVALID);
        due("spareUnits(1, 0)", x.spareUnits(1, 0), 0);
        due("spareUnits(2, 0)", x.spareUnits(2, 0), 2);
        for (int bad : OUTSIDE) {
            due("kindOf(bad, 0)", x.kindOf(bad, 0), INVALID);
            due("kindOf(0, bad)", x.kindOf(0, bad), INVALID);
            due("tuningOf(bad, 0)", x.tuningOf(bad, 0), INVALID);
            due("tuningOf(0, bad)", x.tuningOf(0, bad), INVALID);
            due("spareUnits(bad, 0)", x.spareUnits(bad, 0), INVALID);
            due("spareUnits(0, bad)", x.spareUnits(0, bad), INVALID);
        }
    }

    /** Player 0 stands left, player 1 right; kind 0 (two units) and kind 2 are kept left, kind 1 and kind 3 right. */
    private static SetlistPlanner twoSongs(String parts) {
        return configured("s1;s1;p0;p1;k2,0;k1,1;k1,0;k1,1;" + parts);
    }

    private static void dueChange(String parts, int player, int change, int cost) {
        SetlistPlanner x = twoSongs(parts);
        due("changeOf(" + player + ", 0, 1) of " + parts, x.changeOf(player, 0, 1), change);
        due("changeCost(" + player + ", 0, 1) of " + parts, x.changeCost(player, 0, 1), cost);
    }

    private static void promises19And20() {
        section = "promises 19 and 20";
        dueChange("", 0, SetlistPlanner.NOTHING, 0);
        dueChange("u0,0,1,2;u1,0,1,2;", 0, SetlistPlanner.NOTHING, 0);
        dueChange("u1,0,0,5;", 0, SetlistPlanner.PICK_UP, 1);
        dueChange("u1,0,1,5;", 0, SetlistPlanner.PICK_UP, 2);
        dueChange("u1,1,0,5;", 1, SetlistPlanner.PICK_UP, 2);
        dueChange("u1,1,1,5;", 1, SetlistPlanner.PICK_UP, 1);
        dueChange("u0,0,0,5;", 0, SetlistPlanner.PUT_DOWN, 1);
        dueChange("u0,0,1,5;", 0, SetlistPlanner.PUT_DOWN, 2);
        dueChange("u0,1,0,5;", 1, SetlistPlanner.PUT_DOWN, 2);
        dueChange("u0,0,0,1;u1,0,2,1;", 0, SetlistPlanner.EXCHANGE, 3);
        dueChange("u0,0,0,1;u1,0,1,1;", 0, SetlistPlanner.EXCHANGE, 4);
        dueChange("u0,0,1,1;u1,0,0,4;", 0, SetlistPlanner.EXCHANGE, 4);
        dueChange("u0,0,1,1;u1,0,3,4;", 0, SetlistPlanner.EXCHANGE, 5);
        dueChange("u0,1,1,1;u1,1,3,4;", 1, SetlistPlanner.EXCHANGE, 3);
        dueChange("u0,1,0,1;u1,1,2,4;", 1, SetlistPlanner.EXCHANGE, 5);
        dueChange("u0,0,0,1;u1,0,0,5;", 0, SetlistPlanner.TAKE_SPARE, 2);
        dueChange("u0,1,0,1;u1,1,0,5;", 1, SetlistPlanner.TAKE_SPARE, 3);
        dueChange("u0,0,0,1;u0,1,0,1;u1,0,0,5;", 0, SetlistPlanner.TAKE_SPARE, 2);
        dueChange("u0,0,0,1;u1,1,0,1;u1,0,0,5;", 0, SetlistPlanner.RETUNE, 6);
        dueChange("u0,0,0,5;u1,1,0,1;u1,0,0,0;", 0, SetlistPlanner.RETUNE, 7);
        dueChange("u0,1,0,0;u1,1,0,1;u1,0,0,5;", 1, SetlistPlanner.RETUNE, 3);
        dueChange("u0,0,1,0;u1,0,1,5;", 0, SetlistPlanner.RETUNE, 7);
        dueChange("u0,0,0,3;u1,0,0,3;u1,1,0,5;", 0, SetlistPlanner.NOTHING, 0);
        SetlistPlanner x = new SetlistPlanner();
        for (int bad : new int[] {-1, 5, Integer.MAX_VALUE, Integer.MIN_VALUE}) {
            due("changeOf(bad, 0, 1)", x.changeOf(bad, 0, 1), INVALID);
            due("changeOf(0, bad, 1)", x.changeOf(0, bad, 1), INVALID);
            due("changeOf(0, 0, bad)", x.changeOf(0, 0, bad), INVALID);
            due("changeCost(bad, 0, 1)", x.changeCost(bad, 0, 1), INVALID);
            due("changeCost(0, bad, 1)", x.changeCost(0, bad, 1), INVALID);
            due("changeCost(0, 0, bad)", x.changeCost(0, 0, bad), INVALID);
        }
        due("changeOf(3, 0, 1)", x.changeOf(3, 0, 1), INVALID);
        due("changeCost(3, 0, 1)", x.changeCost(3, 0, 1), INVALID);
        for (int song = 0; song < 5; song++) {
            due("changeOf(0, song, song)", x.changeOf(0, song, song), INVALID);
            due("changeCost(0, song, song)", x.changeCost(0, song, song), INVALID);
        }
        due("changeOf(1, 3, 4)", x.changeOf(1, 3, 4), SetlistPlanner.EXCHANGE);
        due("changeCost(1, 3, 4)", x.changeCost(1, 3, 4), 4);
    }

    private static void promise21() {
        section = "promise 21";
        SetlistPlanner x = new SetlistPlanner();
        for (int bad : new int[] {-1, 5, Integer.MAX_VALUE, Integer.MIN_VALUE}) {
            due("changeoverCost(bad, 0)", x.changeoverCost(bad, 0), INVALID);
            due("changeoverCost(0, bad)", x.changeoverCost(0, bad), INVALID);
        }
        for (int song = 0; song < 5; song++) {
            due("changeoverCost(song, song)", x.changeoverCost(song, song), INVALID);
        }
        due("changeoverCost(1, 0)", x.changeoverCost(1, 0), 4);
        due("changeoverCost(3, 0)", x.changeoverCost(3, 0), 7);
        SetlistPlanner y = configured("s1;s1;p0;p0;p0;p0;p0;k5,0;u0,0,0,0;u0,1,0,0;u0,2,0,0;u0,3,0,0;u0,4,0,0;"
            + "u1,0,0,5;u1,1,0,5;u1,2,0,5;u1,3,0,5;u1,4,0,5;");
        due("changeoverCost(0, 1) with five who retune", y.changeoverCost(0, 1), 35);
    }

    private static void promises22To25() {
        section = "promise 22";
        SetlistPlanner x = new SetlistPlanner();
        for (int bad : OUTSIDE) {
            due("songAt(bad)", x.songAt(bad), INVALID);
        }
        due("songAt(5)", x.songAt(5), INVALID);
        x.moveSong(4, 0);
        dueOrder(x, 4, 0, 1, 2, 3);
        section = "promise 23";
        due("orderCost() of one song", configured("s1;p0;k1,0;").orderCost(), 0);
        int sum = x.changeoverCost(4, 0) + x.changeoverCost(0, 1) + x.changeoverCost(1, 2) + x.changeoverCost(2, 3);
        due("orderCost()", x.orderCost(), sum);
        section = "promise 24";
        due("isAllowed() with an encore at the front", x.isAllowed(), 0);
        due("isAllowed() of a new object", new SetlistPlanner().isAllowed(), 1);
        for (int song = 0; song < 5; song++) {
            SetlistPlanner pinned = new SetlistPlanner();
            pinned.pin(song, song);
            due("isAllowed() with song " + song + " at its pin", pinned.isAllowed(), 1);
            pinned.pin(song, (song + 1) % 5);
            due("isAllowed() with song " + song + " before its pin", pinned.isAllowed(), 0);
        }
        x = new SetlistPlanner();
        x.pin(2, 1);
        due("isAllowed() with song 2 elsewhere", x.isAllowed(), 0);
        x.moveSong(2, 1);
        due("isAllowed() with song 2 there", x.isAllowed(), 1);
        x.setEncore(2, 1);
        due("isAllowed() with an encore in between", x.isAllowed(), 0);
        x.unpin(2);
        due("isAllowed() still", x.isAllowed(), 0);
        x.moveSong(1, 4);
        due("isAllowed() with both encores last", x.isAllowed(), 1);
        for (int song = 0; song < 5; song++) {
            x.setEncore(song, 1);
        }
        due("isAllowed() with encores alone", x.isAllowed(), 1);
        section = "promise 25";
        due("dearestChangeover() of one song", configured("s1;p0;k1,0;").dearestChangeover(), MISSING);
        due("dearestChangeover() of equal ones", configured("s1;s1;s1;p0;k1,0;").dearestChangeover(), 0);
        SetlistPlanner y = configured("s1;s1;s1;s1;p0;p0;k1,0;u1,0,0,0;u3,0,0,0;");
        due("dearestChangeover() of equal ones that cost", y.dearestChangeover(), 0);
        y = configured("s1;s1;s1;s1;p0;p1;k1,0;k1,0;u0,0,0,0;u1,0,0,0;u2,0,1,0;u3,0,0,0;");
        due("dearestChangeover() in between", y.dearestChangeover(), 1);
        y.moveSong(3, 0);
        due("dearestChangeover() at the end", y.dearestChangeover(), 2);
    }

    private static void promises26To29() {
        section = "promises 26 to 29";
        SetlistPlanner one = configured("s1;p0;k1,0;");
        due("bestCost() of one song", one.bestCost(), 0);
        due("bestOrderCount() of one song", one.bestOrderCount(), 1);
        due("bestCostFrom(0) of one song", one.bestCostFrom(0), 0);
        dueBestOrder(one, 0, INVALID);
        SetlistPlanner eight = configured("s1;s1;s1;s1;s1;s1;s1;s1;p0;k1,0;");
        due("bestCost() without parts", eight.bestCost(), 0);
        due("bestOrderCount() without parts", eight.bestOrderCount(), 40320);
        dueBestOrder(eight, 0, 1, 2, 3, 4, 5, 6, 7);
        eight.setEncore(0, 1);
        eight.setEncore(3, 1);
        due("bestOrderCount() with two encores", eight.bestOrderCount(), 1440);
        dueBestOrder(eight, 1, 2, 4, 5, 6, 7, 0, 3);
        due("bestCostFrom(0) of an encore", eight.bestCostFrom(0), MISSING);
        due("bestCostFrom(7)", eight.bestCostFrom(7), 0);
        eight.pin(7, 0);
        eight.pin(0, 7);
        due("bestOrderCount() with two pins", eight.bestOrderCount(), 120);
        dueBestOrder(eight, 7, 1, 2, 4, 5, 6, 3, 0);
        due("bestCostFrom(1) where 7 is pinned", eight.bestCostFrom(1), MISSING);
        eight.pin(3, 5);
        due("bestCost() with a contradiction", eight.bestCost(), MISSING);
        due("bestOrderCount() with a contradiction", eight.bestOrderCount(), 0);
        dueBestOrder(eight, MISSING, MISSING, MISSING, MISSING, MISSING, MISSING, MISSING, MISSING, INVALID);
        for (int song = 0; song < 8; song++) {
            due("bestCostFrom() with a contradiction", eight.bestCostFrom(song), MISSING);
        }
        due("bestCostFrom(8)", eight.bestCostFrom(8), INVALID);
        SetlistPlanner x = new SetlistPlanner();
        for (int bad : OUTSIDE) {
            due("bestSongAt(bad)", x.bestSongAt(bad), INVALID);
            due("bestCostFrom(bad)", x.bestCostFrom(bad), INVALID);
        }
        due("bestSongAt(5)", x.bestSongAt(5), INVALID);
        due("bestCostFrom(5)", x.bestCostFrom(5), INVALID);
        dueBestOrder(x, 3, 2, 1, 0, 4);
        due("bestCostFrom(1)", x.bestCostFrom(1), 19);
        x.moveSong(0, 3);
        dueBestOrder(x, 3, 2, 1, 0, 4);
        x.setEncore(4, 0);
        due("bestCost() without encores", x.bestCost(), x.adoptBest());
        // Songs 1 and 2 have the same part, 0 and 3 have none: either pair first, each pair in either order.
        SetlistPlanner ties = configured("s1;s1;s1;s1;p0;k1,0;u2,0,0,0;u1,0,0,0;");
        due("bestCost() with ties", ties.bestCost(), 1);
        due("bestOrderCount() with ties", ties.bestOrderCount(), 8);
        dueBestOrder(ties, 0, 3, 1, 2);
    }

    private static void promise30() {
        section = "promise 30";
        SetlistPlanner x = new SetlistPlanner();
        for (int bad : OUTSIDE) {
            due("savingByUnit(bad)", x.savingByUnit(bad), INVALID);
        }
        due("savingByUnit(3)", x.savingByUnit(3), INVALID);
        due("savingByUnit(0)", x.savingByUnit(0), 0);
        String parts = "u0,0,0,0;u1,0,0,5;u0,1,1,0;u1,1,1,3;";
        SetlistPlanner y = configured("s1;s1;p0;p0;k1,0;k1,1;k1,0;" + parts);
        due("bestCost()", y.bestCost(), 12);
        due("savingByUnit(0)", y.savingByUnit(0), 5);
        due("bestCost() after savingByUnit", y.bestCost(), 12);
        due("savingByUnit(1)", y.savingByUnit(1), 2);
        due("bestOrderCount() after savingByUnit", y.bestOrderCount(), 2);
        due("savingByUnit(2)", y.savingByUnit(2), 0);
        due("spareUnits(0, 0) after savingByUnit", y.spareUnits(0, 0), 0);
        due("setUnits(0, 2)", y.setUnits(0, 2), 1);
        due("undo()", y.undo(), 0);
        SetlistPlanner full = configured("s1;s1;p0;p0;p0;p0;p0;k5,0;u0,0,0,0;u0,1,0,0;u0,2,0,0;u0,3,0,0;u0,4,0,0;"
            + "u1,0,0,5;u1,1,0,5;u1,2,0,5;u1,3,0,5;u1,4,0,5;");
        due("savingByUnit(0) of five units", full.savingByUnit(0), 25);
        full.pin(0, 1);
        full.setEncore(1, 1);
        due("savingByUnit(0) without an allowed order", full.savingByUnit(0), MISSING);
        due("savingByUnit(1) without an allowed order", full.savingByUnit(1), INVALID);
    }

    private static void promise31() {
        section = "promise 31";
        SetlistPlanner x = new SetlistPlanner();
        for (int bad : OUTSIDE) {
            due("encoresWithin(bad)", x.encoresWithin(bad), INVALID);
        }
        due("encoresWithin(161)", x.encoresWithin(161), INVALID);
        due("encoresWithin(0)", x.encoresWithin(0), 0);
        due("encoresWithin(3)", x.encoresWithin(3), 0);
        due("encoresWithin(160)", x.encoresWithin(160), 16);
        SetlistPlanner most = configured("s6;s4;s2;s3;s3;p0;k1,0;e0;e1;e2;e3;e4;");
        due("encoresWithin(6): least mask of two songs", most.encoresWithin(6), 6);
        due("encoresWithin(8): three songs", most.encoresWithin(8), 28);
        due("encoresWithin(3): least mask of one song", most.encoresWithin(3), 8);
        due("encoresWithin(1): none fits", most.encoresWithin(1), 0);
        due("encoresWithin(160): all", most.encoresWithin(160), 31);
        most.setEncore(1, 0);
        due("encoresWithin(6) without song 1", most.encoresWithin(6), 24);
        due("encoresWithin(160) without song 1", most.encoresWithin(160), 29);
        SetlistPlanner full = configured("s20;s20;s20;s20;s20;s20;s20;s20;p0;k1,0;e0;e1;e2;e3;e4;e5;e6;e7;");
        due("encoresWithin(160)", full.encoresWithin(160), 255);
        due("encoresWithin(159)", full.encoresWithin(159), 127);
        due("encoresWithin(20)", full.encoresWithin(20), 1);
        due("encoresWithin(19)", full.encoresWithin(19), 0);
        due("undo()", full.undo(), IMPOSSIBLE);
        due("encoresWithin(160) without encores", configured("s1;p0;k1,0;").encoresWithin(160), 0);
    }

    public static void main(String[] args) {
        examples();
        promise1();
        promise2();
        promise3();
        promise4Forms();
        promise4Ranges();
        promise4Units();
        promise5();
        promise6();
        promise7();
        promise8();
        promise9();
        promise10();
        promise11();
        promise12();
        promise13();
        promise14();
        promises15To18();
        promises19And20();
        promise21();
        promises22To25();
        promises26To29();
        promise30();
        promise31();
        System.out.println(wrong == 0 ? "all answers are as due" : wrong + " answers are not as due");
        if (wrong != 0) {
            System.exit(1);
        }
    }
}
