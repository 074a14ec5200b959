/** The edges of Terms 4 (IN THOUGHT) and of promises 17 to 42. */
final class ThoughtEdges {
    /** DEED 1 is done, then it is told to come after DEED 0, which is not, and DEED 2 after it. */
    private static final String[] LATE = {"quill(0, 99)", "clerk(0)", "deed(50)", "deed(5)", "deed(7)", "tell(0, 'lifts 0;blots 0;writes 9;')",
        "act(0, 0, 0)", "act(2, 0, 1)", "hours(1) = 5", "look(4) = 2", "tell(3, 'deed 1 after 0;deed 2 after 1;') = 2"};

    private ThoughtEdges() { }

    static void all() {
        row(21, "letters", "A word for PAGE", 1, 20, 10, "NONE", "0", "-2", "21");
        row(23, "stamp", "A stamp", 1, 30, 4, "NONE", "0", "-2", "31");
        row(31, "cut", "A place for PLANKS", 1, 59, 7, "NONE", "0", "-2", "60");
        row(33, "sign", "One of READ", 0, 9, 12, "NONE", "-2", "-10", "10");
        row(35, "leg", "A leg for LINE", -179, 179, 10, "0", "-180", "-181", "180");
        row(38, "weight", "A weight for LIFT", 1, 9, 8, "NONE", "0", "-2", "10");
        row(40, "heir", "An heir for SEAL", 1, 50, 6, "NONE", "0", "-2", "51");
        goes();
        done();
        soon();
        flock();
        page();
        stamps();
        scratch();
        threes();
        curve();
        quire();
        dot();
        dots();
        planks();
        read();
        line();
        water();
        lift();
        seal();
        game();
        crossed();
    }

    /** What each answers is the same, whatever was asked ahead of it. */
    private static void crossed() {
        String[] told = {"12 times deed(9)", "clerk(3)", "quill(1, 90)", "act(0, 0, 0)", "act(2, 0, 4)", "10 times letters(7)", "stamp(9)", "stamp(14)",
            "dot(1, 5, 9)", "dot(2, 90, 3)", "cut(9)", "cut(8)", "cut(40)",
            "sign(3)", "sign(1)", "sign(3)", "5 times leg(120)", "8 times weight(3)", "heir(7)", "heir(9)"};
        String[] asks = {"17 goes(60, 0)", "17 goes(9, 3)", "18 done(4)", "19 soon(1, 0)", "19 soon(2, 1)", "20 flock(12, NONE)", "20 flock(7, 3)",
            "20 flock(3, NONE)", "22 page(20, 0)", "22 page(31, 1)", "24 stamps(0)", "24 stamps(1)", "25 scratch(27, 0)",
            "26 threes(50, 1)", "27 curve(5, 9, 0)", "28 quire(3, 4, 0)", "30 dots(1)", "32 planks(60, 0)", "32 planks(60, 1)", "32 planks(9, 0)", "34 read(0)",
            "34 read(105)", "36 line(2)", "37 water(77, 8, 1)",
            "39 lift(40, 0)", "39 lift(3, 1)", "41 seal(100, 0)", "41 seal(7, NONE)", "41 seal(200, NONE)", "42 game(0, 0)", "42 game(4000, 1)"};
        for (String due : asks) {
            String last = due.substring(3);
            Edges.edge(Integer.parseInt(due.substring(0, 2)), "(nothing of it stays): " + last + " is the same behind each other one", r -> {
                r.all(told);
                int alone = r.call(last);
                for (String ahead : asks) {
                    Run other = new Run();
                    other.all(told);
                    other.all(ahead.substring(3), ahead.substring(3));
                    r.due(last + " behind " + ahead.substring(3), other.call(last), alone);
                }
            });
        }
    }

    /** What all rows that are told one by one have alike. */
    private static void row(int promise, String name, String what, int least, int most, int limit, String empties, String... beyond) {
        Edges.edge(promise, what + " " + least + " .. " + most + ": both ends are taken", name + "(" + least + ") = 1", name + "(" + most + ") = 2");
        for (String v : beyond) Edges.unchanged(promise, what + ": NONE if one can't be", Edges.BUSY, name + "(" + v + ") = NONE");
        Edges.unchanged(promise, what + ": NONE at the ends of an int", Edges.BUSY, name + "(MIN) = NONE", name + "(MAX) = NONE");
        String[] full = new String[limit];
        for (int i = 0; i < limit; i++) full[i] = name + "(" + (i % 2 == 0 ? most - i / 2 % 9 : Math.max(least, 1) + i / 2 % 9) + ") = " + (i + 1);
        Edges.edge(promise, what + ": how many, up to " + limit, full);
        Edges.unchanged(promise, what + ": NONE if there are " + limit, full, name + "(" + (most - 9) + ") = NONE", name + "(" + (least + 9) + ") = NONE",
            name + "(" + most + ") = NONE");
        Edges.edge(promise, what + " (" + empties + ": none is then), of many and of none", r -> {
            r.all(name + "(" + empties + ") = 0");
            r.all(full);
            r.all(name + "(" + empties + ") = 0", name + "(" + empties + ") = 0");
            r.all(full);
            r.all(name + "(" + (most - 9) + ") = NONE");
        });
        Edges.edge(promise, what + " (" + empties + ": none is then): all else as it was", r -> {
            Run other = new Run();
            other.all(name + "(" + empties + ")");
            r.all(full);
            r.all(name + "(" + empties + ") = 0");
            r.due("as if none had been told", Edges.whole(r).equals(Edges.whole(other)) ? 1 : 0, 1);
        });
        Edges.edge(promise, what + " (" + empties + ": none is then): what is told then is alone", r -> {
            Run other = new Run();
            other.all(name + "(" + empties + ")", name + "(" + most + ")");
            r.all(full);
            r.all("page(20, 0)", "stamps(1)", "planks(60, 0)", "read(0)", "line(0)", "lift(40, 0)", "seal(200, 0)", "seal(199, NONE)",
                name + "(" + empties + ") = 0", name + "(" + most + ") = 1");
            r.due("as if nothing else had been told", Edges.whole(r).equals(Edges.whole(other)) ? 1 : 0, 1);
        });
        Edges.edge(promise, what + ": of one object, not of another", r -> {
            new Run().all(full);
            r.all(name + "(" + most + ") = 1");
        });
    }

    private static void goes() {
        Edges.edge(17, "GOES for n (1 .. 60): both ends", "quill(0, 99)", "clerk(9)", "deed(99)", "act(0, 0, 0)", "act(2, 0, 0)",
            "tell(0, 'lifts 0;blots 0;writes 1;')", "goes(1, 0) = 1", "goes(59, 0) = 59", "goes(60, 0) = 60");
        Edges.unchanged(17, "NONE if n can't be", Edges.BUSY, "goes(0, 0) = NONE", "goes(-1, 0) = NONE", "goes(61, 0) = NONE", "goes(MIN, 1) = NONE",
            "goes(MAX, 2) = NONE");
        Edges.unchanged(17, "NONE for another what", Edges.BUSY, "goes(1, 4) = NONE", "goes(1, -1) = NONE", "goes(1, MIN) = NONE", "goes(60, MAX) = NONE",
            "goes(0, 9) = NONE");
        Edges.unchanged(17, "(nothing of it stays; no DRAWS)", Edges.BUSY, "goes(1, 0) = 29", "goes(1, 1) = 0", "goes(1, 2) = 1", "goes(1, 3) = 2",
            "goes(60, 0) = 46", "goes(60, 3) = 2");
        Edges.edge(17, "it falls so, if it is 500 at least: lifts 500, not 499", "one()", "tell(0, 'lifts 500;blots 0;')", "goes(1, 2) = 1", "goes(1, 0) = 0",
            "tell(0, 'lifts 499;blots 0;writes 3;')", "goes(60, 2) = 0", "goes(1, 0) = 3");
        Edges.edge(17, "it falls so, if it is 500 at least: blots 500, not 499", "one()", "tell(0, 'lifts 0;blots 500;')", "goes(1, 1) = 1", "goes(60, 1) = 40",
            "tell(0, 'lifts 0;blots 499;writes 3;')", "goes(60, 1) = 0", "goes(1, 0) = 3");
        Edges.edge(17, "lines WRITTEN of all DEEDS, BLOTS of all: those that are, too", "busy()", "look(6) = 6", "goes(60, 0) = 46");
        Edges.edge(17, "DEEDS done then: how many", "calm()", "set(0, 1, 99)", "goes(1, 3) = 0", "goes(2, 3) = 2", "hours(2)", "look(4) = 3",
            "goes(60, 3) = 2");
        Edges.edge(17, "of those done the later one alone", "calm()", "set(0, 1, 99)", "tell(0, 'lifts 0;blots 0;writes 12 when deed=1;writes 1;')",
            "goes(1, 3) = 1");
        Edges.edge(17, "HOURS in thought go on from the HOUR, with ORDERS for them", "one()", "hours(2)", "tell(1, 'at 2 clerk 0 rest;at 4 clerk 0 write 0;')",
            "goes(1, 0) = 6", "goes(2, 0) = 6", "goes(3, 0) = 9");
        Edges.edge(17, "THE LAW knows the HOUR in thought", "one()", "hours(1)", "tell(0, 'lifts 0;blots 0;writes hour;')", "goes(1, 0) = 4", "goes(2, 0) = 6",
            "goes(3, 0) = 9");
        Edges.edge(17, "a full BOOK does not matter", "one()", "tell(0, 'lifts 0;blots 1000;')", "hours(40)", "act(3, 0, 0)", "hours(60)", "hours(39)",
            "act(3, 0, 0)", "hours(11)", "look(6) = 150", "tell(0, 'lifts 0;blots 0;writes 3;')", "goes(2, 0) = 6", "goes(60, 3) = 1");
        Edges.edge(17, "a full desk: of all twelve DEEDS, of all ten CLERKS", r -> {
            r.all("14 times quill(0, 9)", "10 times clerk(0)", "12 times deed(1)",
                "tell(0, 'lifts 500 when hand=9;lifts 0;blots 500 when deed=11;blots 0;writes 9;')", "set(2, 0, 9)");
            for (int c = 0; c < 10; c++) r.all("act(0, " + c + ", " + (c + 4) + ") = true", "act(2, " + c + ", " + (c + 2) + ") = true");
            r.all("goes(1, 0) = 8", "goes(1, 1) = 1", "goes(1, 2) = 1", "goes(1, 3) = 8", "goes(60, 1) = 9");
        });
        Edges.edge(17, "an empty desk: 0", "goes(1, 0) = 0", "goes(60, 1) = 0", "goes(60, 2) = 0", "goes(60, 3) = 0");
    }

    private static void done() {
        String[] sixty = {"quill(0, 99)", "clerk(9)", "deed(59)", "deed(60)", "deed(61)", "act(0, 0, 0)", "tell(0, 'lifts 499;blots 499;writes 1;')"};
        Edges.edge(18, "behind how many HOURS: within 60, not 61", r -> {
            r.all(sixty);
            r.all("act(2, 0, 0)", "done(0) = 59", "act(2, 0, 1)", "done(1) = 60", "act(2, 0, 2)", "done(2) = NONE", "done(0) = NONE");
        });
        Edges.edge(18, "0: it is; 1: the next HOUR does it", "calm()", "hours(1)", "done(0) = 1", "hours(1)", "done(0) = 0", "done(1) = NONE");
        Edges.edge(18, "by a full 60 HOURS, not by the first alone", r -> {
            r.all(sixty);
            r.all("hours(30)", "act(2, 0, 1)", "done(1) = 60", "hours(1)", "done(1) = 59");
        });
        Edges.unchanged(18, "NONE if there is none such", Edges.BUSY, "done(4) = NONE", "done(-1) = NONE", "done(11) = NONE", "done(12) = NONE",
            "done(MIN) = NONE", "done(MAX) = NONE");
        Edges.unchanged(18, "(nothing of it stays)", Edges.BUSY, "done(0) = 1", "done(1) = 0", "done(2) = NONE", "done(3) = NONE");
        Edges.edge(18, "0: it is, though a line told since puts it behind one that is not; what comes after it can be begun", r -> {
            r.all(LATE);
            r.all("done(1) = 0", "deedOf(1, 3) = 1", "deedOf(1, 4) = 0", "deedOf(2, 4) = 1", "act(2, 0, 2)", "done(2) = 1", "hours(1) = 7", "look(4) = 6");
        });
        Edges.edge(18, "the twelfth, and none behind it", "11 times deed(9)", "deed(1) = 11", "quill(0, 9)", "clerk(0)", "act(0, 0, 0)", "act(2, 0, 11)",
            "tell(0, 'lifts 0;blots 0;writes 1;')", "done(11) = 1", "done(12) = NONE", "done(10) = NONE");
    }

    private static void soon() {
        String chain = "";
        for (int d = 1; d < 12; d++) chain += "deed " + d + " after " + (d - 1) + ";";
        Edges.edge(19, "lines by r (1 .. 99), behind all it comes after: a chain of all twelve", "12 times deed(99)", "tell(3, '" + chain + "') = 11",
            "soon(1, 0) = 1188", "soon(1, 1) = 11", "soon(99, 0) = 12", "soon(99, 1) = 11", "soon(98, 0) = 24");
        Edges.edge(19, "upwards: one less, as many, one more than r", "deed(9)", "soon(10, 0) = 1", "soon(9, 0) = 1", "soon(8, 0) = 2", "soon(5, 0) = 2",
            "soon(4, 0) = 3", "soon(1, 0) = 9", "soon(99, 0) = 1");
        Edges.unchanged(19, "NONE if r can't be", Edges.BUSY, "soon(0, 0) = NONE", "soon(-1, 0) = NONE", "soon(100, 0) = NONE", "soon(MIN, 1) = NONE",
            "soon(MAX, 1) = NONE");
        Edges.unchanged(19, "NONE for another what", Edges.BUSY, "soon(1, 2) = NONE", "soon(1, -1) = NONE", "soon(1, MIN) = NONE", "soon(99, MAX) = NONE");
        Edges.unchanged(19, "(nothing of it stays)", Edges.BUSY, "soon(1, 0) = 106", "soon(1, 1) = 2", "soon(99, 0) = 2");
        Edges.edge(19, "none there: 0, NONE", "soon(1, 0) = 0", "soon(99, 1) = NONE");
        Edges.edge(19, "all done: 0, NONE", "one()", "set(0, 0, 99)", "hours(7)", "look(4) = 1", "soon(1, 0) = 0", "soon(1, 1) = NONE");
        Edges.edge(19, "of several the least", "deed(5)", "deed(9)", "deed(9)", "deed(8)", "soon(1, 1) = 1", "soon(9, 1) = 0", "soon(4, 1) = 1",
            "soon(3, 1) = 1", "soon(2, 1) = 1", "soon(8, 1) = 1");
        Edges.edge(19, "lines that are left: not those WRITTEN", "one()", "hours(6)", "soon(1, 0) = 2", "soon(2, 0) = 1");
        Edges.edge(19, "one that is done takes nothing, and what comes after it begins at once", "one()", "deed(5)", "tell(3, 'deed 1 after 0;')",
            "soon(1, 0) = 25", "set(0, 0, 99)", "hours(7)", "soon(1, 0) = 5", "soon(1, 1) = 1");
        Edges.edge(19, "one that is done is behind nothing any more, though a line told since puts it behind one that is not", r -> {
            r.all(LATE);
            r.all("soon(1, 0) = 50", "soon(1, 1) = 0", "soon(50, 0) = 1", "soon(50, 1) = 0", "soon(7, 0) = 8", "soon(7, 1) = 0");
        });
        Edges.edge(19, "behind the one that is done last, of several", "3 times deed(4)", "deed(1)", "tell(3, 'deed 1 after 0;deed 3 after 2;deed 3 after 1;')",
            "soon(1, 0) = 9", "soon(1, 1) = 3");
    }

    private static void flock() {
        int[] all = {1, 1, 1, 2, 5, 16, 61, 272, 1385, 7936, 50521, 353792, 2702765};
        Edges.edge(20, "FLOCK of n (0 .. 12), n 0, 1: 1", r -> {
            for (int n = 0; n < all.length; n++) r.due("flock(" + n + ", NONE)", r.desk.flock(n, -1), all[n]);
        });
        Edges.unchanged(20, "NONE if n can't be", Edges.BUSY, "flock(13, NONE) = NONE", "flock(-1, NONE) = NONE", "flock(13, 0) = NONE",
            "flock(MIN, NONE) = NONE", "flock(MAX, NONE) = NONE", "flock(MAX, 5) = NONE");
        Edges.edge(20, "k 0 .. n - 1: the last, and none behind it", r -> {
            for (int n = 0; n <= 12; n++) {
                if (n > 0) r.due("the last first of " + n, r.desk.flock(n, n - 1), n == 1 ? 1 : 0);
                if (n > 0) r.due("the least first of " + n, r.desk.flock(n, 0), all[n - 1]);
                r.due("flock(" + n + ", " + n + ")", r.desk.flock(n, n), -1);
            }
        });
        Edges.unchanged(20, "NONE if k can't be", Edges.BUSY, "flock(12, 12) = NONE", "flock(12, -2) = NONE", "flock(0, 0) = NONE", "flock(12, MIN) = NONE",
            "flock(12, MAX) = NONE", "flock(0, MAX) = NONE");
        Edges.edge(20, "up, down, up: the first of two is the lesser", "flock(2, 0) = 1", "flock(2, 1) = 0", "flock(3, 0) = 1", "flock(3, 1) = 1",
            "flock(3, 2) = 0");
    }

    private static void page() {
        Edges.edge(22, "lines of w (20 .. 60): both ends", "letters(9)", "letters(9)", "letters(9)", "page(20, 0) = 1", "page(20, 1) = 2", "page(60, 0) = 0",
            "page(60, 1) = 1");
        Edges.unchanged(22, "NONE if w can't be", Edges.BUSY, "page(19, 0) = NONE", "page(61, 0) = NONE", "page(0, 1) = NONE", "page(-1, 1) = NONE",
            "page(MIN, 0) = NONE", "page(MAX, 1) = NONE");
        Edges.unchanged(22, "NONE for another what", Edges.BUSY, "page(20, 2) = NONE", "page(20, -1) = NONE", "page(20, MIN) = NONE", "page(60, MAX) = NONE");
        Edges.edge(22, "(none told: 0, 0)", "page(20, 0) = 0", "page(20, 1) = 0", "page(60, 0) = 0", "page(60, 1) = 0", "letters(5)", "letters(NONE)",
            "page(20, 0) = 0", "page(20, 1) = 0");
        Edges.edge(22, "each line but the last costs: one word is the last line", "letters(1)", "page(60, 0) = 0", "page(60, 1) = 1");
        Edges.edge(22, "one blank between two: just as long as w, and one more", "letters(10)", "letters(9)", "page(20, 0) = 0", "page(20, 1) = 1",
            "letters(NONE)", "letters(10)", "letters(10)", "page(20, 0) = 100", "page(20, 1) = 2", "page(21, 0) = 0", "page(21, 1) = 1");
        Edges.edge(22, "a word of 20 in lines of 20: ten words, ten lines", "10 times letters(20)", "page(20, 0) = 0", "page(20, 1) = 10", "page(60, 0) = 1444",
            "page(60, 1) = 5", "page(40, 1) = 10", "page(40, 0) = 3600", "page(41, 1) = 5", "page(41, 0) = 0");
        Edges.edge(22, "the least together, not line by line", "letters(12)", "letters(3)", "letters(8)", "letters(14)", "page(20, 0) = 128",
            "page(20, 1) = 3");
        Edges.edge(22, "the least together, though by more lines: 16 | 3 3 | 16 2 | 3 16 | 3", r -> {
            for (int v : new int[] {16, 3, 3, 16, 2, 3, 16, 3}) r.desk.letters(v);
            r.all("page(20, 0) = 186", "page(20, 1) = 5");
        });
        // 101 is 5 9 5 | 7 12 | 8 2 | 10 6 1 too, by four lines and by five.
        Edges.edge(22, "how many lines then (of several the fewest)", r -> {
            for (int v : new int[] {5, 9, 5, 7, 12, 8, 2, 10, 6, 1}) r.desk.letters(v);
            r.all("page(21, 0) = 101", "page(21, 1) = 4", "letters(NONE)");
            for (int v : new int[] {18, 9, 12, 14, 10, 4, 18, 6}) r.desk.letters(v);
            r.all("page(28, 0) = 170", "page(28, 1) = 4");
        });
    }

    private static void stamps() {
        Edges.edge(24, "(NONE: there is no greatest, none told, too); (none told: 1000)", "stamps(0) = NONE", "stamps(1) = 1000", "stamp(1)", "stamp(NONE)",
            "stamps(0) = NONE", "stamps(1) = 1000");
        Edges.edge(24, "(0: all can)", "stamp(1)", "stamps(0) = 0", "stamps(1) = 0", "stamp(30)", "stamps(0) = 0", "stamps(1) = 0");
        Edges.edge(24, "(NONE: there is no greatest): one alone, and all with a common part", "stamp(30)", "stamps(0) = NONE", "stamps(1) = 967", "stamp(12)",
            "stamps(0) = NONE", "stamp(18)", "stamps(0) = NONE", "stamps(1) = 835", "stamp(30)", "stamps(0) = NONE");
        Edges.edge(24, "of 1 .. 1000: 1000, too, 1001 not", "stamp(30)", "stamps(1) = 967", "stamp(NONE)", "stamp(25)", "stamps(1) = 960", "stamp(NONE)",
            "stamp(13)", "stamps(1) = 924", "stamp(NONE)", "stamp(11)", "stamps(1) = 910");
        Edges.edge(24, "the greatest there can be", "stamp(30)", "stamp(29)", "stamps(0) = 811", "stamps(1) = 406");
        Edges.edge(24, "no common part of all, though each two have one", "stamp(6)", "stamp(10)", "stamp(15)", "stamps(0) = 29", "stamps(1) = 15");
        Edges.edge(24, "the same stamp four times is one", "4 times stamp(7)", "stamps(0) = NONE", "stamps(1) = 858");
        Edges.edge(24, "as many of each as one likes: none of one, too", "stamp(2)", "stamp(3)", "stamps(0) = 1", "stamps(1) = 1");
        Edges.unchanged(24, "NONE for another what", Edges.BUSY, "stamps(2) = NONE", "stamps(-1) = NONE", "stamps(MIN) = NONE", "stamps(MAX) = NONE");
    }

    private static void scratch() {
        Edges.edge(25, "SCRATCH of n (1 .. 9999): both ends", "scratch(1, 0) = 0", "scratch(1, 1) = 1", "scratch(9999, 0) = 91", "scratch(9999, 1) = 101248");
        Edges.unchanged(25, "NONE if n can't be", Edges.BUSY, "scratch(0, 0) = NONE", "scratch(-1, 0) = NONE", "scratch(10000, 0) = NONE",
            "scratch(0, 1) = NONE", "scratch(MIN, 1) = NONE", "scratch(MAX, 0) = NONE");
        Edges.unchanged(25, "NONE for another what", Edges.BUSY, "scratch(5, 2) = NONE", "scratch(5, -1) = NONE", "scratch(5, MIN) = NONE",
            "scratch(5, MAX) = NONE");
        Edges.edge(25, "the greatest on the way (n, too)", "scratch(8, 1) = 8", "scratch(8, 0) = 3", "scratch(3, 1) = 16", "scratch(3, 0) = 7",
            "scratch(9663, 1) = 27114424", "scratch(8192, 1) = 8192", "scratch(8192, 0) = 13");
        Edges.edge(25, "till it is 1: the longest way", "scratch(6171, 0) = 261");
    }

    private static void threes() {
        Edges.edge(26, "how many digits (0: 0)", "threes(0, 0) = 0", "threes(0, 1) = 0", "threes(0, 10) = -2");
        Edges.edge(26, "1 and -1: one digit", "threes(1, 0) = 1", "threes(1, 10) = 1", "threes(1, 11) = -2", "threes(-1, 0) = 1", "threes(-1, 1) = 1",
            "threes(-1, 10) = -1", "threes(-1, 11) = -2");
        Edges.edge(26, "one digit, then two: 1, 2; two, then three: 4, 5", "threes(2, 0) = 2", "threes(2, 10) = -1", "threes(2, 11) = 1", "threes(4, 0) = 2",
            "threes(5, 0) = 3", "threes(-4, 0) = 2", "threes(-5, 0) = 3");
        int[] digits = {0, 0, 1, 1, 0, -1, -1, -1, -1, 1};
        Edges.edge(26, "n (-9999 .. 9999): both ends, digit by digit", r -> {
            r.all("threes(9999, 0) = 10", "threes(9999, 1) = 7", "threes(-9999, 0) = 10", "threes(-9999, 1) = 7");
            for (int i = 0; i < 10; i++) {
                r.due("digit " + i + " of 9999", r.desk.threes(9999, 10 + i), digits[i]);
                r.due("digit " + i + " of -9999", r.desk.threes(-9999, 10 + i), -digits[i]);
            }
            r.all("threes(9999, 20) = -2", "threes(-9999, 20) = -2");
        });
        Edges.unchanged(26, "NONE - 1 if n can't be", Edges.BUSY, "threes(10000, 0) = -2", "threes(-10000, 0) = -2", "threes(10000, 10) = -2",
            "threes(MIN, 0) = -2", "threes(MAX, 1) = -2");
        Edges.unchanged(26, "NONE - 1 if there is none such, or another what", Edges.BUSY, "threes(5, 13) = -2", "threes(5, 2) = -2", "threes(5, 9) = -2",
            "threes(5, -1) = -2", "threes(5, MIN) = -2", "threes(5, MAX) = -2");
    }

    private static void curve() {
        Edges.edge(27, "k (0 .. 12): both ends", "curve(0, 0, 0) = 0", "curve(0, 1, 0) = 1", "curve(0, 1, 1) = 0", "curve(12, 4096, 0) = -64",
            "curve(12, 4096, 1) = 0", "curve(12, 4095, 1) = -1", "curve(11, 2048, 0) = -32", "curve(11, 2048, 1) = 32");
        Edges.unchanged(27, "NONE - 9999 if k can't be", Edges.BUSY, "curve(-1, 0, 0) = -10000", "curve(13, 0, 0) = -10000", "curve(13, 1, 2) = -10000",
            "curve(32, 0, 0) = -10000", "curve(MIN, 0, 1) = -10000", "curve(MAX, 1, 2) = -10000");
        Edges.edge(27, "x, y behind step n (0 .. 2 to the k): both ends of each k", r -> {
            for (int k = 0; k <= 12; k++) {
                int steps = 1 << k;
                r.all("curve(" + k + ", 0, 0) = 0", "curve(" + k + ", 0, 1) = 0", "curve(" + k + ", " + (steps + 1) + ", 0) = -10000",
                    "curve(" + k + ", -1, 1) = -10000");
                if (r.call("curve(" + k + ", " + steps + ", 1)") == -10000) r.due("the last step of " + k, 0, 1);
            }
        });
        Edges.edge(27, "whether turn n (1 .. 2 to the k, less 1): both ends of each k", r -> {
            for (int k = 0; k <= 12; k++) {
                int steps = 1 << k;
                r.all("curve(" + k + ", 0, 2) = -10000", "curve(" + k + ", " + steps + ", 2) = -10000");
                if (k > 0) r.all("curve(" + k + ", 1, 2) = 1", "curve(" + k + ", " + (steps - 1) + ", 2) = " + (k == 1 ? 1 : 0),
                    "curve(" + k + ", " + steps / 2 + ", 2) = 1");
            }
        });
        Edges.unchanged(27, "NONE - 9999 if n can't be", Edges.BUSY, "curve(3, -1, 0) = -10000", "curve(3, 9, 0) = -10000", "curve(3, 9, 1) = -10000",
            "curve(3, 8, 2) = -10000", "curve(3, 0, 2) = -10000", "curve(3, -1, 2) = -10000", "curve(3, MIN, 0) = -10000", "curve(3, MAX, 2) = -10000");
        Edges.unchanged(27, "NONE - 9999 for another what", Edges.BUSY, "curve(3, 1, 3) = -10000", "curve(3, 1, -1) = -10000", "curve(3, 1, MIN) = -10000",
            "curve(3, 1, MAX) = -10000");
        Edges.edge(27, "turn 0 of k 0 there is not", "curve(0, 0, 2) = -10000", "curve(0, 1, 2) = -10000");
    }

    private static void quire() {
        Edges.edge(28, "QUIRE of n (1 .. 12): both ends", "quire(1, 1, 0) = 4", "quire(1, 4, 0) = 1", "quire(1, 2, 1) = 1", "quire(1, 3, 2) = 0",
            "quire(12, 1, 0) = 48", "quire(12, 48, 0) = 1", "quire(12, 48, 1) = 47", "quire(12, 24, 2) = 11", "quire(12, 48, 2) = 0");
        Edges.unchanged(28, "NONE if n can't be", Edges.BUSY, "quire(0, 1, 0) = NONE", "quire(-1, 1, 0) = NONE", "quire(13, 1, 0) = NONE",
            "quire(MIN, 1, 1) = NONE", "quire(MAX, 1, 2) = NONE");
        Edges.edge(28, "4 n pages from 1 on: both ends of each n", r -> {
            for (int n = 1; n <= 12; n++) {
                r.all("quire(" + n + ", 0, 0) = NONE", "quire(" + n + ", " + (4 * n + 1) + ", 0) = NONE", "quire(" + n + ", 1, 0) = " + 4 * n,
                    "quire(" + n + ", " + 4 * n + ", 0) = 1", "quire(" + n + ", 1, 2) = 0", "quire(" + n + ", " + 4 * n + ", 2) = 0");
                for (int p = 2 * n - 1; p <= 2 * n + 2; p++) r.call("quire(" + n + ", " + p + ", 2) = " + (n - 1));
            }
        });
        Edges.unchanged(28, "NONE if p can't be", Edges.BUSY, "quire(2, 0, 0) = NONE", "quire(2, -1, 1) = NONE", "quire(2, 9, 2) = NONE",
            "quire(2, MIN, 0) = NONE", "quire(2, MAX, 0) = NONE");
        Edges.unchanged(28, "NONE for another what", Edges.BUSY, "quire(2, 1, 3) = NONE", "quire(2, 1, -1) = NONE", "quire(2, 1, MIN) = NONE",
            "quire(2, 1, MAX) = NONE");
        Edges.edge(28, "two leaves of two pages for each sheet", "quire(2, 1, 1) = 2", "quire(2, 2, 1) = 1", "quire(2, 3, 1) = 4", "quire(2, 4, 1) = 3",
            "quire(2, 5, 1) = 6", "quire(2, 8, 1) = 7");
    }

    private static void dot() {
        Edges.edge(29, "Point i (0, 1, 2), x, y 0 .. 99: both ends are taken", "dot(0, 0, 99) = true", "dot(1, 99, 0) = true", "dot(2, 99, 99) = true",
            "dots(0) = 100", "dots(2) = 9801");
        Edges.unchanged(29, "false for another point", Edges.BUSY, "dot(3, 1, 1) = false", "dot(-1, 1, 1) = false", "dot(MIN, 1, 1) = false",
            "dot(MAX, 1, 1) = false");
        Edges.unchanged(29, "false if x can't be", Edges.BUSY, "dot(0, -1, 1) = false", "dot(1, 100, 1) = false", "dot(2, MIN, 1) = false",
            "dot(0, MAX, 1) = false");
        Edges.unchanged(29, "false if y can't be", Edges.BUSY, "dot(0, 1, -1) = false", "dot(1, 1, 100) = false", "dot(2, 1, MIN) = false",
            "dot(0, 1, MAX) = false");
        Edges.edge(29, "(0, 0 each at first)", "dots(0) = 1", "dot(1, 4, 0)", "dots(0) = 5", "dot(2, 0, 4)", "dots(2) = 16", "dots(1) = 3");
        Edges.edge(29, "told once more: the latest", "dot(1, 4, 0)", "dot(1, 0, 9) = true", "dots(0) = 10", "dot(1, 0, 0) = true", "dots(0) = 1");
    }

    private static void dots() {
        Edges.edge(30, "from the first to the second, both ends, too", "dot(0, 0, 0)", "dot(1, 1, 0)", "dots(0) = 2", "dot(1, 99, 98)", "dots(0) = 2",
            "dot(1, 99, 99)", "dots(0) = 100", "dot(0, 99, 0)", "dots(0) = 100", "dot(0, 98, 99)", "dots(0) = 2", "dot(0, 97, 99)", "dots(0) = 3");
        Edges.edge(30, "(both one: 1)", "dot(0, 99, 99)", "dot(1, 99, 99)", "dots(0) = 1", "dots(2) = 0");
        Edges.edge(30, "(all on one line: 0)", "dot(0, 0, 0)", "dot(1, 99, 99)", "dot(2, 50, 50)", "dots(1) = 0", "dots(2) = 0", "dot(2, 0, 0)", "dots(1) = 0",
            "dots(2) = 0");
        Edges.edge(30, "inside, not on its edge: none, one", "dot(1, 1, 0)", "dot(2, 0, 1)", "dots(1) = 0", "dots(2) = 1", "dot(1, 3, 0)", "dot(2, 0, 3)",
            "dots(1) = 1", "dots(2) = 9", "dot(1, 2, 0)", "dot(2, 0, 2)", "dots(1) = 0", "dots(2) = 4");
        Edges.edge(30, "twice that field (without sign): whichever way round, the greatest", "dot(1, 99, 0)", "dot(2, 0, 99)", "dots(2) = 9801",
            "dots(1) = 4753", "dot(1, 0, 99)", "dot(2, 99, 0)", "dots(2) = 9801", "dots(1) = 4753");
        Edges.edge(30, "from the first to the second, whichever they are; the field of all three", "dot(0, 1, 2)", "dot(1, 7, 5)", "dot(2, 3, 11)",
            "dots(0) = 4", "dots(1) = 22", "dots(2) = 48",
            "dot(0, 7, 5)", "dot(1, 3, 11)", "dot(2, 1, 2)", "dots(0) = 3", "dots(1) = 22", "dots(2) = 48", "dot(0, 3, 11)", "dot(1, 1, 2)", "dot(2, 7, 5)",
            "dots(0) = 2", "dots(1) = 22", "dots(2) = 48");
        Edges.edge(30, "points on each of the three lines", "dot(0, 2, 3)", "dot(1, 12, 8)", "dot(2, 6, 15)", "dots(0) = 6", "dots(2) = 100", "dots(1) = 46");
        Edges.unchanged(30, "NONE for another what", Edges.BUSY, "dots(3) = NONE", "dots(-1) = NONE", "dots(MIN) = NONE", "dots(MAX) = NONE");
    }

    private static void planks() {
        Edges.unchanged(31, "told already: the first, the last", Edges.BUSY, "cut(30) = NONE", "cut(10) = NONE");
        Edges.edge(31, "told already, but none is since", "cut(30) = 1", "cut(NONE) = 0", "cut(30) = 1");
        Edges.edge(31, "seven told: one of them, and an eighth", "cut(1)", "cut(2)", "cut(3)", "cut(4)", "cut(5)", "cut(6)", "cut(59) = 7", "cut(59) = NONE",
            "cut(58) = NONE", "planks(60, 0) = 130");
        Edges.edge(32, "l (1 .. 60): both ends", "cut(59)", "planks(60, 0) = 60", "planks(60, 1) = 59", "planks(1, 0) = 0", "planks(1, 1) = NONE");
        Edges.unchanged(32, "NONE if l can't be", Edges.BUSY, "planks(0, 0) = NONE", "planks(-1, 0) = NONE", "planks(61, 0) = NONE", "planks(MIN, 1) = NONE",
            "planks(MAX, 1) = NONE");
        Edges.unchanged(32, "NONE for another what", Edges.BUSY, "planks(60, 2) = NONE", "planks(60, -1) = NONE", "planks(60, MIN) = NONE",
            "planks(60, MAX) = NONE");
        Edges.edge(32, "that are below l (others are left out): at l, one below", "cut(10)", "planks(10, 0) = 0", "planks(10, 1) = NONE", "planks(11, 0) = 11",
            "planks(11, 1) = 10", "planks(9, 0) = 0");
        Edges.edge(32, "the first place there is", "cut(1)", "planks(1, 0) = 0", "planks(2, 0) = 2", "planks(2, 1) = 1");
        Edges.edge(32, "(none to be cut: 0, NONE)", "planks(60, 0) = 0", "planks(60, 1) = NONE", "cut(59)", "planks(59, 0) = 0", "planks(59, 1) = NONE");
        Edges.edge(32, "(of several the least place), in whatever order they were told", "cut(40)", "cut(20)", "planks(60, 0) = 100", "planks(60, 1) = 20",
            "cut(NONE)", "cut(30)", "cut(20)", "cut(10)", "planks(40, 0) = 80", "planks(40, 1) = 20");
        Edges.edge(32, "all seven at once", "cut(56)", "cut(8)", "cut(48)", "cut(16)", "cut(40)", "cut(24)", "cut(32)", "planks(60, 1) = 32",
            "planks(60, 0) = 180");
    }

    private static void read() {
        Edges.edge(34, "(none told: 0, 0; k 0: 1, else 0)", "read(0) = 0", "read(1) = 0", "read(100) = 1", "read(101) = 0", "read(112) = 0", "sign(5)",
            "sign(NONE)", "read(0) = 0", "read(1) = 0", "read(100) = 1", "read(101) = 0", "read(112) = 0");
        Edges.edge(34, "k (0 .. 12): both ends", r -> {
            for (int i = 0; i < 12; i++) r.desk.sign(i % 10);
            r.all("read(100) = 1", "read(101) = 10", "read(102) = 11", "read(112) = 12");
        });
        Edges.unchanged(34, "NONE for another what", Edges.BUSY, "read(2) = NONE", "read(-1) = NONE", "read(99) = NONE", "read(113) = NONE", "read(MIN) = NONE",
            "read(MAX) = NONE");
        Edges.edge(34, "one alone: from place 0, from the first again, read round as often as one likes", "sign(7)", "read(0) = 0", "read(1) = 1",
            "read(100) = 1", "read(101) = 1", "read(112) = 1");
        Edges.edge(34, "(of several the first); on, 1 at least", "sign(2)", "sign(1)", "sign(2)", "sign(1)", "read(0) = 1", "read(1) = 2", "sign(NONE)",
            "3 times sign(4)", "read(0) = 0", "read(1) = 1");
        Edges.edge(34, "(as many as there are: from the first again)", "sign(1)", "sign(1)", "sign(2)", "read(1) = 3", "read(0) = 0", "sign(NONE)",
            "11 times sign(1)", "sign(0)", "read(1) = 12", "read(0) = 11");
        Edges.edge(34, "read round and on: rows longer than what was told", "sign(1)", "sign(2)", "read(101) = 2", "read(103) = 2", "read(112) = 2");
        Edges.edge(34, "read round: from the last to the first", "sign(1)", "sign(0)", "sign(0)", "read(0) = 1", "read(102) = 3", "sign(0)", "sign(1)",
            "read(0) = 1", "read(102) = 4");
    }

    private static void line() {
        Edges.edge(35, "-1 is a leg (0: none is then)", "leg(-1) = 1", "line(0) = -1", "leg(0) = 0", "line(0) = 0");
        Edges.edge(36, "none told: 0, 0, 0", "line(0) = 0", "line(1) = 0", "line(2) = 0");
        Edges.edge(36, "(-180 .. 179, 180 being -180): 179, 180, 181", "leg(179)", "line(0) = 179", "line(1) = 0", "leg(1)", "line(0) = -180", "line(1) = 1",
            "leg(1)", "line(0) = -179", "line(1) = 1");
        Edges.edge(36, "(-180 .. 179): -179, -180, -181", "leg(-179)", "line(0) = -179", "leg(-1)", "line(0) = -180", "line(1) = 0", "leg(-1)", "line(0) = 179",
            "line(1) = -1");
        Edges.edge(36, "one for each step from 179 to -180, one less for each back", "leg(179)", "leg(1)", "line(1) = 1", "leg(-1)", "line(1) = 0", "leg(1)",
            "line(1) = 1", "leg(-2)", "line(1) = 0", "leg(3)", "line(1) = 1", "line(0) = -179");
        Edges.edge(36, "how many steps come to degree 0 (setting out is none)", "leg(5)", "line(2) = 0", "leg(-5)", "line(2) = 1", "leg(-5)", "line(2) = 1",
            "leg(5)", "line(2) = 2");
        Edges.edge(36, "(through it, too)", "leg(5)", "leg(-10)", "line(2) = 1", "leg(10)", "line(2) = 2", "line(0) = 5");
        Edges.edge(36, "ten legs east, ten legs west", "10 times leg(179)", "line(0) = -10", "line(1) = 5", "line(2) = 4", "leg(0)", "10 times leg(-179)",
            "line(0) = 10", "line(1) = -5", "line(2) = 4");
        Edges.edge(36, "round the world to degree 0", "leg(179)", "leg(179)", "line(0) = -2", "leg(1)", "line(2) = 0", "leg(1)", "line(0) = 0", "line(2) = 1",
            "line(1) = 1");
        Edges.unchanged(36, "NONE - 9999 for another what", Edges.BUSY, "line(3) = -10000", "line(-1) = -10000", "line(MIN) = -10000", "line(MAX) = -10000");
    }

    private static void water() {
        Edges.edge(37, "b (1 .. 16), n (0 .. 65535): both ends", "water(0, 1, 0) = 0", "water(0, 1, 1) = 1", "water(1, 1, 0) = 1", "water(1, 1, 1) = 2",
            "water(0, 16, 0) = 0", "water(0, 16, 1) = 1", "water(65535, 16, 0) = 65535", "water(65535, 16, 1) = 256", "water(65535, 1, 0) = 1",
            "water(65535, 1, 1) = 2");
        Edges.unchanged(37, "NONE if n can't be", Edges.BUSY, "water(-1, 1, 0) = NONE", "water(65536, 1, 0) = NONE", "water(65536, 16, 1) = NONE",
            "water(MIN, 16, 0) = NONE", "water(MAX, 16, 1) = NONE");
        Edges.unchanged(37, "NONE if b can't be", Edges.BUSY, "water(1, 0, 0) = NONE", "water(1, -1, 0) = NONE", "water(1, 17, 0) = NONE",
            "water(1, 0, 1) = NONE", "water(1, 17, 1) = NONE", "water(1, MIN, 0) = NONE", "water(1, MAX, 1) = NONE");
        Edges.unchanged(37, "NONE for another what", Edges.BUSY, "water(1, 1, 2) = NONE", "water(1, 1, -1) = NONE", "water(1, 1, MIN) = NONE",
            "water(1, 1, MAX) = NONE");
        Edges.edge(37, "the lowest b bits of n, no others", "water(32768, 16, 0) = 1", "water(32768, 15, 0) = 0", "water(1, 16, 0) = 32768",
            "water(1, 15, 0) = 16384", "water(65534, 1, 0) = 0", "water(14, 3, 0) = 3");
        Edges.edge(37, "0 .. n (n, too)", "water(5, 3, 1) = 3", "water(4, 3, 1) = 2", "water(2, 3, 1) = 2", "water(1, 3, 1) = 1", "water(65534, 16, 1) = 255");
        Edges.edge(37, "below 2 to the b: of those above none", "water(7, 3, 1) = 4", "water(8, 3, 1) = 4", "water(9, 3, 1) = 4", "water(65535, 3, 1) = 4",
            "water(2, 1, 1) = 2", "water(32768, 15, 1) = 256");
    }

    private static void lift() {
        Edges.edge(39, "n 1 .. 40: both ends (n 1: 0, NONE)", "lift(1, 0) = 0", "lift(1, 1) = NONE", "lift(40, 0) = 16", "lift(40, 1) = 1", "weight(9)",
            "lift(1, 0) = 0", "lift(1, 1) = NONE", "lift(40, 0) = 24", "lift(40, 1) = 9");
        Edges.unchanged(39, "NONE if n can't be", Edges.BUSY, "lift(0, 0) = NONE", "lift(-1, 0) = NONE", "lift(41, 0) = NONE", "lift(MIN, 1) = NONE",
            "lift(MAX, 1) = NONE");
        Edges.unchanged(39, "NONE for another what", Edges.BUSY, "lift(5, 2) = NONE", "lift(5, -1) = NONE", "lift(5, MIN) = NONE", "lift(5, MAX) = NONE");
        Edges.edge(39, "none told: 1", "lift(2, 0) = 0", "lift(2, 1) = 1", "weight(1)", "lift(2, 0) = 0", "lift(2, 1) = 1", "weight(NONE)", "lift(2, 1) = 1");
        Edges.edge(39, "(itself counts, if one comes round to it)", "weight(2)", "lift(2, 1) = 0", "lift(2, 0) = 1", "weight(NONE)", "weight(3)",
            "lift(2, 1) = 1", "lift(2, 0) = 0", "weight(NONE)", "weight(9)", "lift(3, 1) = 0", "lift(3, 0) = 1");
        Edges.edge(39, "bird i has the one told i-th modulo how many: the ninth the first", r -> {
            for (int i = 0; i < 8; i++) r.desk.weight(i == 7 ? 9 : 1);
            // 0 weighs 1: 1; 2: 3; 4: 5; 6: 7; 8 weighs 1: 9; 10: 11; 0: 2; 4: 6; 8: 10; 0: 4; 8: 0; 8.
            r.all("lift(12, 1) = 1", "lift(12, 0) = 8", "weight(NONE) = 0");
            for (int i = 0; i < 8; i++) r.desk.weight(i == 0 ? 2 : 1);
            // 0 weighs 2: 2; 3: 4; 5: 6; 7: 8; 0: 3; 5: 7; 0: 5; 1 weighs 1: 0; 1.
            r.all("lift(9, 1) = 2", "lift(9, 0) = 1");
        });
    }

    private static void seal() {
        Edges.edge(41, "l (0 .. 200): both ends", "heir(1)", "heir(1)", "heir(1)", "seal(0, 0) = 0", "seal(0, 2) = 0", "seal(200, 0) = 67", "seal(200, 1) = 67",
            "seal(200, 2) = 66", "seal(0, NONE) = NONE", "seal(200, NONE) = NONE");
        Edges.unchanged(41, "NONE if l can't be", Edges.BUSY, "seal(-1, 0) = NONE", "seal(201, 0) = NONE", "seal(201, NONE) = NONE", "seal(-1, NONE) = NONE",
            "seal(MIN, 1) = NONE", "seal(MAX, NONE) = NONE");
        Edges.unchanged(41, "NONE if there is no such heir", Edges.BUSY, "seal(100, 3) = NONE", "seal(100, -2) = NONE", "seal(100, 6) = NONE",
            "seal(100, MIN) = NONE", "seal(100, MAX) = NONE");
        Edges.edge(41, "(none told, too)", "seal(0, 0) = NONE", "seal(5, 0) = NONE", "seal(5, NONE) = NONE", "seal(200, NONE) = NONE", "heir(5)",
            "seal(5, 0) = 5", "heir(NONE)", "seal(5, 0) = NONE");
        Edges.edge(41, "one alone has all", "heir(50)", "seal(0, 0) = 0", "seal(1, 0) = 1", "seal(200, 0) = 200", "seal(200, NONE) = NONE");
        Edges.edge(41, "six alike: what is left goes to the least", "6 times heir(50)", "seal(4, 3) = 1", "seal(4, 4) = 0", "seal(6, 5) = 1", "seal(5, 5) = 0",
            "seal(200, 1) = 34", "seal(200, 2) = 33");
        Edges.edge(41, "the greatest rest ahead of the least heir", "heir(1)", "heir(2)", "seal(1, 0) = 0", "seal(1, 1) = 1", "seal(2, 0) = 1",
            "seal(2, 1) = 1");
        Edges.edge(41, "who would have less by l and 1: by 200 and 201, too", "heir(39)", "heir(16)", "heir(50)", "seal(200, NONE) = 1", "seal(200, 1) = 31",
            "seal(199, NONE) = NONE");
        Edges.edge(41, "the least heir who would have less", "heir(11)", "heir(9)", "heir(1)", "heir(13)", "heir(19)", "seal(132, NONE) = 1",
            "seal(132, 1) = 23", "seal(133, 1) = 22", "seal(132, 2) = 3", "seal(133, 2) = 2");
        Edges.edge(41, "by all weights: by those told since none was", "6 times heir(49)", "seal(100, 0) = 17", "seal(100, NONE) = NONE", "heir(NONE) = 0",
            "heir(20)", "heir(30)", "seal(100, 0) = 40", "seal(100, 1) = 60", "seal(100, 2) = NONE", "seal(3, NONE) = NONE",
            "heir(NONE)", "heir(1)", "heir(2)", "seal(2, 0) = 1", "seal(2, 1) = 1",
            "heir(NONE)", "heir(50)", "heir(1)", "heir(40)", "seal(1, 0) = 1", "heir(NONE)", "heir(1)", "heir(2)", "seal(2, 0) = 1", "seal(2, 1) = 1");
        Edges.edge(41, "heir 0 would have less", "heir(2)", "heir(6)", "heir(6)", "seal(10, NONE) = 0", "seal(11, NONE) = NONE");
    }

    private static void game() {
        Edges.edge(42, "a set (0 .. 4095): both ends", "game(0, 0) = 2", "game(0, 1) = 0", "game(4095, 0) = 0", "game(4095, 1) = NONE");
        Edges.unchanged(42, "NONE - 9 if one can't be", Edges.BUSY, "game(-1, 0) = -10", "game(4096, 0) = -10", "game(4096, 1) = -10", "game(MIN, 0) = -10",
            "game(MAX, 1) = -10");
        Edges.unchanged(42, "NONE - 9 for another what", Edges.BUSY, "game(0, 2) = -10", "game(0, -1) = -10", "game(4095, 2) = -10", "game(0, MIN) = -10",
            "game(0, MAX) = -10");
        int[] closes = {1, 1, 2, 2, 1, 1, 1, 2, 1, 1, 2, 1};
        for (int l = 0; l < 12; l++) {
            int left = 4095 & ~(1 << l);
            Edges.edge(42, "the last line, " + l + ", closes its boxes and is the least that does", "game(" + left + ", 0) = " + closes[l],
                "game(" + left + ", 1) = " + l);
        }
        int[][] boxes = {{0, 2, 6, 7}, {1, 3, 7, 8}, {2, 4, 9, 10}, {3, 5, 10, 11}};
        for (int[] b : boxes) {
            int whole = 1 << b[0] | 1 << b[1] | 1 << b[2] | 1 << b[3];
            // It is worth 1 to have it, and three boxes are 1 less for whoever must begin in them.
            Edges.edge(42, "(others count for nobody): the box of " + b[0] + " is closed, nothing else drawn", "game(" + whole + ", 0) = -1");
            for (int l : b) Edges.edge(42, "who closes a box has it and goes again: " + l + " closes the first one", "game(" + (whole & ~(1 << l)) + ", 0) = 0",
                "game(" + (whole & ~(1 << l)) + ", 1) = " + l);
        }
        // Of two lines whoever draws the first gives the box away, unless each closes one.
        Edges.edge(42, "(below 0: fewer); the least line that keeps it", "game(" + (4095 & ~(1 << 0 | 1 << 6)) + ", 0) = -1",
            "game(" + (4095 & ~(1 << 0 | 1 << 6)) + ", 1) = 0", "game(" + (4095 & ~(1 << 5 | 1 << 11)) + ", 1) = 5");
        Edges.edge(42, "goes again: two boxes that are each one line short", "game(" + (4095 & ~(1 << 0 | 1 << 11)) + ", 0) = 2",
            "game(" + (4095 & ~(1 << 0 | 1 << 11)) + ", 1) = 0");
        Edges.edge(42, "(others count for nobody): what is closed does not matter", "game(" + (4095 & ~(1 << 9)) + ", 0) = 1");
        Edges.edge(42, "asked in any order", "game(4095, 0) = 0", "game(2048, 0) = -2", "game(0, 0) = 2", "game(4094, 0) = 1", "game(0, 1) = 0",
            "game(1, 0) = -2");
        Edges.unchanged(42, "(nothing of it stays)", Edges.BUSY, "game(0, 0) = 2", "game(0, 1) = 0", "game(4095, 1) = NONE");
    }
}
