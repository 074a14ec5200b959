/** The edges of Terms 2 (TEXTS, THE LAW, TOKENS, FAULTS) and of promises 9 to 12. */
final class TextEdges {
    private static final String[] LINE = {"writes1;", "at0clerk0rest;", "bird0wild0fine0;", "deed1after0;"};
    private static final String[] NAMES = {"THE LAW", "ORDERS", "BIRDS", "AFTER"};
    /** Three QUILLS, two CLERKS, four DEEDS, all four texts told, an hour that can be undone. */
    private static final String[] TOLD = {"quill(3, 20)", "quill(4, 5)", "quill(0, 0)", "clerk(5)", "clerk(9)", "deed(8)", "deed(12)", "deed(1)", "deed(1)",
        "tell(0, 'writes 3;blots 4;lifts 5;')", "tell(1, 'at 9 clerk 0 rest;')", "tell(2, 'bird 3 wild 1 fine 2;')", "tell(3, 'deed 1 after 0;')",
        "act(0, 0, 0)", "hours(1)"};
    private static final String[] FACTS = {"hand", "ink", "worn", "wild", "fine", "left", "signed", "lifted", "bird", "deed", "hour"};

    private TextEdges() { }

    static void all() {
        feed();
        end();
        whichText();
        emptyText();
        linesOfEach();
        numbers();
        words();
        everyByte();
        endOfText();
        orders();
        birds();
        after();
        lawLines();
        open();
        firstFault();
        fault();
        held();
        whichLine();
        conditions();
        facts();
        reckons();
    }

    private static void taken(String sentence, int k, String text, int lines) {
        Edges.edge(11, sentence, r -> {
            r.all(TOLD);
            r.all("tell(" + k + ", '" + text + "') = " + lines, "fault(0) = 0", "fault(1) = NONE", "look(" + (8 + k) + ") = " + lines, "end(1) = false",
                "feed(0, 0, 0, 0, 0) = 20");
        });
    }

    private static void faulty(String sentence, int k, String text, int what, int place) {
        Edges.edge(12, sentence, r -> {
            r.all(TOLD);
            r.all("tell(" + k + ", '" + text + "') = NONE", "fault(0) = " + what, "fault(1) = " + place);
            // The TEXT stays as it was, THE TAPE is empty, what can be undone still can.
            r.all("look(8) = 3", "who(0, 5) = 3", "who(0, 6) = 4", "who(0, 7) = 5", "look(9) = 1", "look(10) = 1", "of(0, 5) = 1", "of(0, 6) = 2",
                "look(11) = 1", "deedOf(1, 3) = 1",
                "look(12) = 2", "look(7) = 0", "end(1) = false", "feed(0, 0, 0, 0, 0) = 20");
        });
    }

    private static void feed() {
        Edges.edge(9, "of each number the highest first, at the ends of an int, too", "feed(1651077732, 540221559, 1768711200, 840984169, 1852121139) = 20",
            "feed(993737531, MIN, MAX, -1, 0) = 40",
            "text(2) = NONE", "fault(0) = 1", "fault(1) = 21", "feed(1651077732, 540221559, 1768711200, 840984169, 1852121139) = 20",
            "feed(991961120, MIN, MAX, -1, 0) = 40", "end(21) = true", "text(2) = 1", "quill(3, 1)", "of(0, 5) = 2", "of(0, 6) = 3");
        Edges.edge(9, "a byte above 127 is one byte, and no blank", "feed(-1, -1, -1, -1, -1) = 20", "text(0) = NONE", "fault(0) = 1", "fault(1) = 0",
            "feed(538976288, 538976288, 538976288, 538976288, 538976511) = 20", "text(0) = NONE", "fault(1) = 19");
        Edges.edge(9, "400: twenty times twenty", r -> {
            for (int i = 1; i <= 20; i++) r.due("feed " + i, r.desk.feed(i, i, i, i, i), 20 * i);
            r.all("end(401) = false", "end(400) = true");
        });
        Edges.unchanged(9, "NONE, and nothing comes, if there would be more than 400: behind 400", Edges.after("one()",
            "fed('writes 7;" + " ".repeat(391) + "')"), "feed(0, 0, 0, 0, 0) = NONE", "feed(MIN, MAX, MIN, MAX, -1) = NONE");
        Edges.unchanged(9, "NONE, and nothing comes, if there would be more than 400: behind 381", Edges.after("one()",
            "fed('writes 7;" + " ".repeat(372) + "')"), "feed(0, 0, 0, 0, 0) = NONE");
        Edges.edge(9, "behind 380 there is room for twenty", "19 times feed(0, 0, 0, 0, 0)", "feed(0, 0, 0, 0, 0) = 400");
        Edges.edge(9, "behind 381 there is none, behind 380 again", "20 times feed(0, 0, 0, 0, 0)", "end(381) = true", "feed(0, 0, 0, 0, 0) = NONE",
            "end(381) = true", "end(380) = true", "feed(0, 0, 0, 0, 0) = 400");
        Edges.edge(9, "the last of 400 bytes is read", "one()", "fed('" + " ".repeat(391) + "writes 7;')", "text(0) = 1", "who(0, 5) = 7",
            "fed('" + " ".repeat(392) + "writes 7')", "text(0) = NONE", "fault(0) = 1", "fault(1) = 400");
        Edges.edge(9, "behind a text THE TAPE takes 400 again", "20 times feed(0, 0, 0, 0, 0)", "text(0) = NONE", "19 times feed(0, 0, 0, 0, 0)",
            "feed(0, 0, 0, 0, 0) = 400");
    }

    private static void end() {
        Edges.edge(10, "its first n bytes alone: all, fewer, none", "feed(0, 0, 0, 0, 0)", "end(20) = true", "end(19) = true", "end(20) = false",
            "end(1) = true", "end(2) = false", "end(0) = true", "end(1) = false");
        Edges.edge(10, "an empty TAPE: 0 alone", "end(0) = true", "end(1) = false", "end(-1) = false", "feed(0, 0, 0, 0, 0) = 20");
        Edges.edge(10, "the first n bytes, not the last", "one()", "fed('writes 7;writes')", "end(9) = true", "text(0) = 1", "who(0, 5) = 7");
        Edges.edge(10, "what comes then comes behind them", "one()", "fed('writes 7;')", "end(8) = true", "fed('1;')", "text(0) = 1", "who(0, 5) = 71");
        Edges.unchanged(10, "false, changing nothing, if it has not so many", Edges.BUSY, "end(10) = false", "end(20) = false", "end(400) = false",
            "end(401) = false", "end(MAX) = false");
        Edges.unchanged(10, "false, changing nothing, if n is below 0", Edges.BUSY, "end(-1) = false", "end(MIN) = false");
        Edges.unchanged(10, "true, changing nothing, if it has just as many", Edges.BUSY, "end(9) = true");
    }

    private static void whichText() {
        String[] ks = {"-1", "4", "MIN", "MAX"};
        for (String k : ks) {
            Edges.edge(11, "NONE: no such one, " + k + " (fault() tells 0); THE TAPE is empty then, all else as it was", r -> {
                r.all(TOLD);
                r.all("tell(0, 'writes 1/0;') = NONE", "fault(0) = 2", "fed('writes 7;')", "text(" + k + ") = NONE", "fault(0) = 0", "fault(1) = NONE",
                    "end(1) = false", "feed(0, 0, 0, 0, 0) = 20",
                    "look(8) = 3", "who(0, 5) = 3", "look(9) = 1", "look(10) = 1", "look(11) = 1", "look(12) = 2");
            });
        }
        for (int k = 0; k < 4; k++) taken("TEXT " + k + " is " + NAMES[k], k, LINE[k], 1);
        for (int k = 0; k < 4; k++) for (int other = 0; other < 4; other++) {
            if (k != other) faulty("KEYWORDS (those told here for that text): a line of " + NAMES[other] + " in " + NAMES[k], k, LINE[other], 1, 0);
        }
    }

    private static void emptyText() {
        for (int k = 0; k < 4; k++) {
            taken("{..}: no line at all is " + NAMES[k] + ", too", k, "", 0);
            taken("{..}: blanks alone are no line of " + NAMES[k], k, "  \n ", 0);
        }
        Edges.edge(11, "an empty LAW tells as at first", "one()", "who(0, 5) = 3", "text(0) = 0", "who(0, 5) = 6", "who(0, 6) = 150");
        Edges.edge(11, "no ORDERS: nobody moves", "one()", "tell(1, 'at 0 clerk 0 drop;')", "text(1) = 0", "hours(1) = 3", "who(0, 1) = 0");
        Edges.edge(11, "no BIRDS: wild 0, fine 5", "one()", "tell(2, 'bird 0 wild 9 fine 9;')", "of(0, 5) = 9", "text(2) = 0", "of(0, 5) = 0", "of(0, 6) = 5");
        Edges.edge(11, "no AFTER: all can be written", "one()", "deed(1)", "tell(3, 'deed 1 after 0;')", "deedOf(1, 4) = 0", "text(3) = 0", "deedOf(1, 4) = 1",
            "deedOf(1, 3) = 0");
    }

    private static void linesOfEach() {
        for (int k = 0; k < 4; k++) {
            String sixteen = LINE[k].repeat(16);
            taken("16 lines of each: sixteen of " + NAMES[k], k, sixteen, 16);
            faulty("3 (at its KEYWORD) the 17th line: of " + NAMES[k], k, sixteen + LINE[k], 3, sixteen.length());
            faulty("3 at its KEYWORD, not at the blank before it: of " + NAMES[k], k, sixteen + " \n" + LINE[k] + LINE[k], 3, sixteen.length() + 2);
            faulty("3 at the KEYWORD of the 17th line, whatever is wrong behind it: of " + NAMES[k], k, sixteen + LINE[k].replaceAll("[0-9].*", ""), 3,
                sixteen.length());
            faulty("the least at one place: no KEYWORD begins the 17th line of " + NAMES[k], k, sixteen + ";", 1, sixteen.length());
            taken("sixteen and blanks of " + NAMES[k], k, sixteen + "\n ", 16);
        }
        Edges.edge(11, "the sixteenth line of each is kept", r -> {
            r.all(TOLD);
            r.all("tell(0, '" + "blots 1;".repeat(15) + "writes 77;') = 16", "who(0, 5) = 77",
                "tell(2, '" + LINE[2].repeat(15) + "bird 3 wild 8 fine 7;') = 16", "of(0, 5) = 8", "of(0, 6) = 7",
                "tell(3, '" + LINE[3].repeat(15) + "deed 3 after 2;') = 16", "deedOf(3, 3) = 4", "deedOf(1, 3) = 1");
        });
    }

    private static void numbers() {
        for (String n : new String[] {"0", "9", "10", "99", "100", "999", "1000", "9999", "0000", "0001"}) taken("NUMBERS of 1 to 4 digits: " + n, 0,
            "lifts " + n + ";", 1);
        for (String n : new String[] {"00000", "00001", "10000", "99999", "123456789012"}) faulty("or none: " + n, 0, "lifts " + n + ";", 1, 6);
        faulty("or none: five digits, though its value is within the bounds", 1, "at 00009 clerk 0 rest;", 1, 3);
        faulty("or none: a part by five digits", 0, "lifts 1/00000;", 1, 8);
        faulty("digits as many as stand together: not two NUMBERS", 0, "lifts 12341;", 1, 6);
        faulty("two NUMBERS with a blank between are two", 0, "lifts 1 2;", 1, 8);
        taken("a NUMBER and a KEYWORD side by side are two", 0, "lifts1when1=1and 2>1or 1<2;", 1);
    }

    private static void words() {
        for (String word : new String[] {"Writes", "WRITES", "writeS", "write", "writess", "swrites", "w",
            "writesblots"}) faulty("letters as many as stand together are KEYWORDS or none: " + word, 0, word + " 1;", 1, 0);
        for (String word : new String[] {"Hand", "han", "hands", "clerk", "take", "writes", "when", "x",
            "and"}) faulty("no NUMBER, none of the eleven: " + word, 0, "writes " + word + ";", 1, 7);
        for (String word : FACTS) taken("U = " + word, 0, "writes " + word + ";", 1);
        for (String word : FACTS) {
            faulty("a NUMBER, not " + word, 1, "at " + word + " clerk 0 rest;", 1, 3);
            faulty("a NUMBER, not " + word, 2, "bird 1 wild " + word + " fine 1;", 1, 12);
            faulty("a NUMBER, not " + word, 3, "deed 1 after " + word + ";", 1, 13);
        }
        for (String word : new String[] {"Take", "takes", "drops", "after", "at", "hour", "x"}) faulty("ORDERS know six things to do, not " + word, 1,
            "at 0 clerk 0 " + word + ";", 1, 13);
    }

    /** Each of the 256 bytes where a blank could stand. A sign that joins can stand behind a NUMBER, but not ahead of the ; that comes then. */
    private static void everyByte() {
        for (int c = 0; c < 256; c++) {
            int b = c;
            boolean blank = c == 32 || c == 10;
            boolean digit = c >= '0' && c <= '9';
            boolean letter = c >= 'a' && c <= 'z' || c >= 'A' && c <= 'Z';
            boolean joins = c == '+' || c == '-' || c == '*' || c == '/';
            Edges.edge(11, "TOKENS, Blanks (32, 10) between: byte " + c, r -> {
                r.put("writes 1" + (char) b + ";");
                int place = blank || digit ? -1 : joins || b == ';' ? 9 : 8;
                r.due("behind a NUMBER", r.desk.text(0), place < 0 ? 1 : -1);
                r.due("its place", r.desk.fault(1), place);
                r.put((char) b + "writes 1;");
                r.due("ahead of a KEYWORD", r.desk.text(0), blank ? 1 : -1);
                r.due("its place", r.desk.fault(1), blank ? -1 : 0);
                r.put("writes" + (char) b + " 1;");
                place = blank ? -1 : letter ? 0 : digit ? 8 : 6;
                r.due("behind a KEYWORD", r.desk.text(0), place < 0 ? 1 : -1);
                r.due("its place", r.desk.fault(1), place);
            });
        }
    }

    private static void endOfText() {
        String[] law = {"writes", "writes 1 +", "writes 1", "writes 1 /", "writes 1 when", "writes 1 when 1", "writes 1 when 1 <", "writes 1 when 1 < 2",
            "writes 1 when 1 < 2 and", "writes 1 when 1 < 2 or",
            "writes 1 when not", "writes 1 when (", "writes 1 when (1 < 2", "writes 1 when (1 < 2)", "writes 1; lifts"};
        String[] orders = {"at", "at 0", "at 0 clerk", "at 0 clerk 0", "at 0 clerk 0 take", "at 0 clerk 0 take 0", "at 0 clerk 0 write", "at 0 clerk 0 drop",
            "at 0 clerk 0 rest", "at 0 clerk 0 dip", "at 0 clerk 0 cut"};
        String[] birds = {"bird", "bird 0", "bird 0 wild", "bird 0 wild 0", "bird 0 wild 0 fine", "bird 0 wild 0 fine 0"};
        String[] after = {"deed", "deed 1", "deed 1 after", "deed 1 after 0"};
        String[][] all = {law, orders, birds, after};
        for (int k = 0; k < 4; k++) for (String text : all[k]) {
            faulty("1 what can't stand there (the end: the text's length): " + text, k, text, 1, text.length());
            faulty("the text's length, with blanks at its end: " + text, k, text + " \n ", 1, text.length() + 3);
        }
        Edges.edge(12, "the end is where end() set it: ahead of a ;", "one()", "fed('writes 7;blots 1;')", "end(8) = true", "text(0) = NONE", "fault(0) = 1",
            "fault(1) = 8");
        Edges.edge(12, "the end is where end() set it: amid letters", "one()", "fed('writesx 1;')", "end(6) = true", "text(0) = NONE", "fault(0) = 1",
            "fault(1) = 6");
        Edges.edge(12, "the end is where end() set it: amid digits", "one()", "fed('writes 12345;')", "end(8) = true", "text(0) = NONE", "fault(0) = 1",
            "fault(1) = 8");
        Edges.edge(12, "the end is where end() set it: behind the fourth digit", "one()", "fed('writes 12345;')", "end(11) = true", "text(0) = NONE",
            "fault(0) = 1", "fault(1) = 11");
        Edges.edge(12, "no byte of an older text is read behind the end", "one()", "tell(0, 'writes 1;xyz12345') = NONE", "tell(0, 'writes 8;') = 1",
            "who(0, 5) = 8", "fed('writes 9;')", "end(0)", "tell(0, 'writes') = NONE", "fault(1) = 6");
    }

    private static void orders() {
        taken("HOUR 0 .. 999: 0", 1, "at 0 clerk 0 rest;", 1);
        taken("HOUR 0 .. 999: 999", 1, "at 999 clerk 0 rest;", 1);
        faulty("2 (at the NUMBER) one beyond its bounds: HOUR 1000", 1, "at 1000 clerk 0 rest;", 2, 3);
        faulty("2 one beyond its bounds: HOUR 9999", 1, "at  9999 clerk 0 rest;", 2, 4);
        taken("a CLERK that there is: the last", 1, "at 0 clerk 1 rest;", 1);
        faulty("2 a CLERK that there is not: the next one", 1, "at 0 clerk 2 rest;", 2, 11);
        faulty("2 a CLERK that there is not: 9999", 1, "at 0 clerk 9999 rest;", 2, 11);
        taken("a QUILL that there is: the last", 1, "at 0 clerk 0 take 2;", 1);
        faulty("2 a QUILL that there is not: the next one", 1, "at 0 clerk 0 take 3;", 2, 18);
        taken("a DEED that there is: the last", 1, "at 0 clerk 0 write 3;", 1);
        faulty("2 a DEED that there is not: the next one", 1, "at 0 clerk 0 write 4;", 2, 19);
        String[] six = {"take 0", "drop", "write 0", "rest", "dip", "cut"};
        for (String s : six) taken("ORDERS: " + s, 1, "at 0 clerk 0 " + s + ";", 1);
        for (String s : new String[] {"drop", "rest", "dip", "cut"}) faulty("1 what can't stand there: a NUMBER behind " + s, 1, "at 0 clerk 0 " + s + " 0;", 1,
            14 + s.length());
        for (String s : new String[] {"take", "write"}) faulty("1 what can't stand there: no NUMBER behind " + s, 1, "at 0 clerk 0 " + s + ";", 1,
            13 + s.length());
        faulty("1 what can't stand there: a CLERK ahead of his HOUR", 1, "clerk 0 at 0 rest;", 1, 0);
        faulty("1 what can't stand there: no HOUR", 1, "at clerk 0 rest;", 1, 3);
        faulty("1 what can't stand there: no KEYWORD clerk", 1, "at 0 0 rest;", 1, 5);
        taken("a QUILL that is GONE there is, a DEED that is done, too", 1, "at 0 clerk 0 take 0;at 0 clerk 0 write 0;", 2);
        Edges.edge(12, "where there is nobody: each CLERK is one that there is not", "tell(1, 'at 0 clerk 0 rest;') = NONE", "fault(0) = 2", "fault(1) = 11");
        Edges.edge(12, "where there is no QUILL, no DEED", "clerk(0)", "tell(1, 'at 0 clerk 0 take 0;') = NONE", "fault(0) = 2", "fault(1) = 18",
            "tell(1, 'at 0 clerk 0 write 0;') = NONE", "fault(0) = 2", "fault(1) = 19");
        Edges.edge(11, "the last of fourteen, ten, twelve", "14 times quill(0, 0)", "10 times clerk(0)", "12 times deed(1)",
            "tell(1, 'at 0 clerk 9 take 13;at 0 clerk 9 write 11;') = 2",
            "tell(1, 'at 0 clerk 9 take 14;') = NONE", "fault(1) = 18", "tell(1, 'at 0 clerk 9 write 12;') = NONE", "fault(1) = 19",
            "tell(1, 'at 0 clerk 10 rest;') = NONE", "fault(1) = 11");
    }

    private static void birds() {
        taken("BIRD 0 .. 7: 0", 2, "bird 0 wild 1 fine 1;", 1);
        taken("BIRD 0 .. 7: 7", 2, "bird 7 wild 1 fine 1;", 1);
        faulty("2 one beyond its bounds: BIRD 8", 2, "bird 8 wild 1 fine 1;", 2, 5);
        taken("N 0 .. 9: 0 and 9", 2, "bird 1 wild 0 fine 9;bird 1 wild 9 fine 0;", 2);
        faulty("2 one beyond its bounds: wild 10", 2, "bird 1 wild 10 fine 1;", 2, 12);
        faulty("2 one beyond its bounds: fine 10", 2, "bird 1 wild 1 fine 10;", 2, 19);
        faulty("1 what can't stand there: fine ahead of wild", 2, "bird 1 fine 1 wild 1;", 1, 7);
        faulty("1 what can't stand there: wild alone", 2, "bird 1 wild 1;", 1, 13);
        Edges.edge(11, "of several for one the last", "8 times quill(2, 1)", "quill(3, 1)",
            "tell(2, 'bird 2 wild 1 fine 2;bird 3 wild 3 fine 3;bird 2 wild 4 fine 9;') = 3", "of(0, 5) = 4", "of(0, 6) = 9", "of(8, 5) = 3", "of(8, 6) = 3");
        Edges.edge(11, "else wild 0, fine 5: those ahead and behind in number", "quill(1, 1)", "quill(2, 1)", "quill(3, 1)",
            "tell(2, 'bird 2 wild 9 fine 0;') = 1", "of(0, 5) = 0", "of(0, 6) = 5", "of(1, 5) = 9", "of(1, 6) = 0", "of(2, 5) = 0", "of(2, 6) = 5");
        Edges.edge(11, "a new BIRDS: none of the old one stays", "quill(1, 1)", "tell(2, 'bird 1 wild 9 fine 9;')", "tell(2, 'bird 2 wild 9 fine 9;') = 1",
            "of(0, 5) = 0", "of(0, 6) = 5", "look(10) = 1");
    }

    private static void after() {
        taken("the second, a lesser number: by one", 3, "deed 3 after 2;", 1);
        taken("the second, a lesser number: 0 behind the last", 3, "deed 3 after 0;", 1);
        faulty("2 a DEED behind after that is not lesser: the same", 3, "deed 3 after 3;", 2, 13);
        faulty("2 a DEED behind after that is not lesser: a greater one", 3, "deed 2 after 3;", 2, 13);
        faulty("2 a DEED that there is not: behind after", 3, "deed 3 after 4;", 2, 13);
        faulty("2 a DEED that there is not: the first", 3, "deed 4 after 0;", 2, 5);
        faulty("2 nothing is lesser than 0", 3, "deed 0 after 0;", 2, 13);
        faulty("1 what can't stand there: two behind one", 3, "deed 3 after 1 2;", 1, 15);
        Edges.edge(12, "where there is no DEED", "tell(3, 'deed 0 after 0;') = NONE", "fault(0) = 2", "fault(1) = 5");
        Edges.edge(11, "the twelfth behind the eleventh", "12 times deed(1)", "tell(3, 'deed 11 after 10;') = 1", "deedOf(11, 3) = 1024",
            "tell(3, 'deed 12 after 10;') = NONE", "fault(1) = 5", "deedOf(11, 3) = 1024");
    }

    private static void lawLines() {
        faulty("2 a part by 0", 0, "writes 1/0;", 2, 9);
        faulty("2 a part by 0, four digits long", 0, "writes 1/0000;", 2, 9);
        faulty("2 a part by 0 behind other parts", 0, "writes hand*2/3/0+1;", 2, 16);
        faulty("2 a part by 0 in a B", 0, "writes 1 when 1=2/0;", 2, 18);
        faulty("2 a part by 0 in a B, ahead of its sign", 0, "writes 1 when 1/0=2;", 2, 16);
        taken("a part by 1, by 9999", 0, "writes 1/1;lifts 1/9999;", 2);
        faulty("T = U {.. / NUMBER}: no part by a word", 0, "writes 1/hand;", 1, 9);
        faulty("U: no sign ahead of a NUMBER", 0, "writes -1;", 1, 7);
        faulty("E: no ( in it", 0, "writes (1);", 1, 7);
        faulty("C = E (< | = | >) E: none of the three", 0, "writes 1 when 1;", 1, 15);
        faulty("C = E (< | = | >) E: two of them", 0, "writes 1 when 1<2<3;", 1, 17);
        faulty("C = E (< | = | >) E: two side by side", 0, "writes 1 when 1>=2;", 1, 16);
        faulty("C = ( B ): no E in it", 0, "writes 1 when (1)=1;", 1, 16);
        faulty("C = ( B ): one ) more", 0, "writes 1 when (1=1));", 1, 19);
        faulty("C = ( B ): nothing in it", 0, "writes 1 when ();", 1, 15);
        faulty("B = A {or A}: and behind or", 0, "writes 1 when 1=1 or and 1=1;", 1, 21);
        faulty("A = C {and C}: not alone does not join", 0, "writes 1 when 1=1 not 1=1;", 1, 18);
        faulty("when once", 0, "writes 1 when 1=1 when 1=1;", 1, 18);
        faulty("no E behind the word", 0, "writes when 1=1;", 1, 7);
        faulty("an empty line", 0, "writes 1;;", 1, 9);
        faulty("no ; between two lines", 0, "writes 1 lifts 1;", 1, 9);
        taken("all that B, A, C, E, T, U can be", 0, "writes hand+ink-worn*2/3 when not(1=1 or 2<3 and 3>2)and not not hand=1;blots 0;", 2);
    }

    private static void open() {
        String eight = "((((((((";
        String closed = "))))))))";
        taken("eight ( open", 0, "writes 1 when " + eight + "1=1" + closed + ";", 1);
        faulty("3 (at it) the 9th ( that is open", 0, "writes 1 when " + eight + "(1=1)" + closed + ";", 3, 22);
        taken("eight not open", 0, "writes 1 when " + "not ".repeat(8) + "1=1;", 1);
        faulty("3 (at it) the 9th not that is open", 0, "writes 1 when " + "not ".repeat(9) + "1=1;", 3, 46);
        taken("four ( and four not open", 0, "writes 1 when not(not(not(not(1=1))));", 1);
        faulty("3 the 9th of both: a not", 0, "writes 1 when not(not(not(not(not 1=1))));", 3, 30);
        faulty("3 the 9th of both: a (", 0, "writes 1 when (not(not(not(not(1=1)))));", 3, 30);
        taken("one that is closed is not open any more", 0, "writes 1 when " + (eight + "1=1" + closed + " and ").repeat(3) + "1=1;", 1);
        taken("a not ends with its C", 0, "writes 1 when " + "not 1=1 and ".repeat(12) + "1=1;", 1);
        taken("a not ends with its ( B )", 0, "writes 1 when " + "not(1=1) or ".repeat(12) + "1=1;", 1);
        taken("eight, then eight again in another line", 0, ("writes 1 when " + eight + "1=1" + closed + ";").repeat(2), 2);
        faulty("eight closed, then nine open", 0, "writes 1 when " + eight + "1=1" + closed + " or " + eight + "not 1=1" + closed + ";", 3, 45);
        faulty("the least at one place: a 9th ( that can't stand there", 0, "writes 1 when " + eight + "1=1(1=1)" + closed + ";", 1, 25);
        faulty("3 at it, though the text ends there", 0, "writes 1 when " + eight + "(", 3, 22);
        faulty("3 at it, though it stands behind an and", 0, "writes 1 when 1=1 and " + eight + "not", 3, 30);
    }

    private static void firstFault() {
        faulty("the first by its place: 2 ahead of 1", 0, "writes 1/0 0;", 2, 9);
        faulty("the first by its place: 1 ahead of 2", 0, "writes 1 1/0;", 1, 9);
        faulty("the first by its place: 2 ahead of 3", 0, "writes 1/0 when (((((((((1=1;", 2, 9);
        faulty("the first by its place: in the second line", 0, "writes 1;blots;writes 1/0;", 1, 14);
        faulty("the first by its place: HOUR ahead of CLERK", 1, "at 1000 clerk 5 rest;", 2, 3);
        faulty("the first by its place: CLERK ahead of QUILL", 1, "at 1 clerk 5 take 9;", 2, 11);
        faulty("the first by its place: wild ahead of fine", 2, "bird 1 wild 10 fine 10;", 2, 12);
        faulty("the first by its place: a DEED ahead of one that is not lesser", 3, "deed 4 after 5;", 2, 5);
        faulty("at one place the least: neither digits few enough nor within the bounds", 1, "at 10000 clerk 0 rest;", 1, 3);
        faulty("a fault at 0", 0, ";", 1, 0);
        faulty("a fault in the sixteenth line", 0, LINE[0].repeat(15) + "writes 1/0;", 2, 129);
    }

    private static void fault() {
        Edges.edge(12, "with no text() yet: 0, NONE", "fault(0) = 0", "fault(1) = NONE");
        Edges.unchanged(12, "NONE for another what", Edges.BUSY, "fault(2) = NONE", "fault(-1) = NONE", "fault(MIN) = NONE", "fault(MAX) = NONE");
        Edges.edge(12, "Of the latest text(): a good one has none", "tell(0, 'writes 1/0;') = NONE", "fault(0) = 2", "text(0) = 0", "fault(0) = 0",
            "fault(1) = NONE");
        Edges.edge(12, "Of the latest text(): a second FAULT", "tell(0, 'writes 1/0;') = NONE", "tell(2, 'bird;') = NONE", "fault(0) = 1", "fault(1) = 4");
        Edges.edge(12, "feed() and end() leave it", "tell(0, 'writes 1/0;') = NONE", "20 times feed(1, 1, 1, 1, 1)", "feed(1, 1, 1, 1, 1) = NONE",
            "end(3) = true", "end(9) = false", "fault(0) = 2", "fault(1) = 9");
    }

    private static void held() {
        String[][] words = {{"writes", "5", "99"}, {"blots", "6", "1000"}, {"lifts", "7", "1000"}};
        for (String[] w : words) {
            int most = Integer.parseInt(w[2]);
            String who = "who(0, " + w[1] + ") = ";
            Edges.edge(14, w[0] + " held to 0 .. " + most + ": at and beyond both ends", "one()", "tell(0, '" + w[0] + " 0;')", who + "0",
                "tell(0, '" + w[0] + " 0-1;')", who + "0", "tell(0, '" + w[0] + " 1;')", who + "1",
                "tell(0, '" + w[0] + " " + most + ";')", who + most, "tell(0, '" + w[0] + " " + (most + 1) + ";')", who + most,
                "tell(0, '" + w[0] + " " + (most - 1) + ";')", who + (most - 1),
                "tell(0, '" + w[0] + " 8192*8*8192*4;')", who + "0", "tell(0, '" + w[0] + " 8192*8*8192*4-1;')", who + most);
        }
        Edges.edge(14, "(none: writes: 1 and fine): fine 0, 9, without a QUILL", "quill(0, 1)", "quill(7, 1)",
            "tell(2, 'bird 0 wild 0 fine 0;bird 7 wild 9 fine 9;')", "clerk(0)", "who(0, 5) = 1", "act(0, 0, 0)", "who(0, 5) = 1", "act(1, 0, 0)",
            "act(0, 0, 1)", "who(0, 5) = 10");
        Edges.edge(14, "(none: blots: 300 less 30 times hand): HAND 0, 9", "clerk(0)", "clerk(9)", "who(0, 6) = 300", "who(1, 6) = 30");
        Edges.edge(14, "(none: lifts: 20 times wild): wild 0, 9, without a QUILL", "quill(0, 1)", "quill(7, 1)", "tell(2, 'bird 7 wild 9 fine 9;')", "clerk(0)",
            "who(0, 7) = 0", "act(0, 0, 0)", "who(0, 7) = 0", "act(1, 0, 0)", "act(0, 0, 1)", "who(0, 7) = 180");
    }

    private static void whichLine() {
        Edges.edge(14, "E of the first line with that word whose B is so", "one()", "tell(0, 'writes 1 when 1=2;writes 2 when 1=1;writes 3 when 1=1;')",
            "who(0, 5) = 2");
        Edges.edge(14, "or that has none: those behind it are not asked", "one()", "tell(0, 'writes 4;writes 5 when 1=1;writes 6;')", "who(0, 5) = 4");
        Edges.edge(14, "(none: ..): no line whose B is so", "one()", "tell(0, 'writes 4 when 1=2;blots 4 when 1>1;lifts 4 when 1<1;')", "who(0, 5) = 6",
            "who(0, 6) = 150", "who(0, 7) = 0");
        Edges.edge(14, "with that word: not with another one", "one()", "tell(0, 'blots 7;')", "who(0, 5) = 6", "who(0, 6) = 7", "who(0, 7) = 0");
        Edges.edge(14, "C: <, =, > at, below and above", "one()", "tell(0, 'writes 1 when hand<5;writes 2 when hand>5;writes 3 when hand=5;')", "who(0, 5) = 3",
            "set(2, 0, 4)", "who(0, 5) = 1", "set(2, 0, 6)", "who(0, 5) = 2");
        Edges.edge(14, "not before and, and before or", "one()",
            "tell(0, 'writes 1 when 1=1 or 1=1 and 1=2;blots 1 when not 1=2 and 1=2;blots 2;lifts 1 when 1=2 and 1=1 or 1=1;lifts 2;')", "who(0, 5) = 1",
            "who(0, 6) = 2", "who(0, 7) = 1");
        Edges.edge(14, "( B ) before all", "one()",
            "tell(0, 'writes 1 when (1=1 or 1=1)and 1=2;writes 2;blots 1 when not(1=2 and 1=2);blots 2;lifts 1 when not(1=1 or 1=2);lifts 2;')",
            "who(0, 5) = 2", "who(0, 6) = 1", "who(0, 7) = 2");
        Edges.edge(14, "eight ( and eight not are told as they stand", "one()",
            "tell(0, 'writes 1 when ((((((((1=2))))))));writes 2 when not not not not not not not not 1=1;writes 3;blots 1 when not not not not not not not 1=1;blots 2;')", "who(0, 5) = 2", "who(0, 6) = 2");
    }

    /** B = A {or A}, A = C {and C}, C = .. | not C | ( B ): each with what it comes to. */
    private static void conditions() {
        String[] so = {"not 1=2 and 1=1", "1=1 and not 1=2", "1<2 and 2>1 and 1=1", "1<2 or 1=2", "1=1 and(1=2 or 1=1)", "(1=2)or 1=1", "1=2 or 1=1 or 1=2",
            "1=2 or 1=2 or 1=1", "1=1 or 1=2 or 1=2",
            "1=1 and 1=2 or 1=1 and 1=1", "1=1 or 1=1 and 1=2", "not 1=1 or 1=1", "not not 1=1", "not(1=1 and 1=2)", "not(1=2)and not(1=2)",
            "(1=1 or 1=2)and(1=2 or 1=1)", "1=1 and 1=1 and 1=1"};
        String[] not = {"1=2 and(1=1)", "1=1 and(1=2)", "(1=1)and 1=2", "(1=1 or 1=1)and 1=2", "1=2 or 1=2 or 1=2", "1=1 and 1=1 and 1=2",
            "1=1 and 1=2 and 1=1", "1=2 and 1=1 and 1=1", "1=2 or 1=1 and 1=2 or 1=2",
            "not(1=1 or 1=1)or 1=2", "not not not 1=1", "not(1=1)and 1=2", "not 1=2 and 1=2", "1=2 and 1=2 or 1=2", "(1=1 and 1=2)or(1=2 and 1=1)",
            "not 1=1 and 1=1", "2<1 or 1>2 or 1>1 or 1<1"};
        for (String b : so) Edges.edge(14, "whose B is so: " + b, "one()", "tell(0, 'writes 7 when " + b + ";') = 1", "who(0, 5) = 7");
        for (String b : not) Edges.edge(14, "whose B is not so: " + b, "one()", "tell(0, 'writes 7 when " + b + ";') = 1", "who(0, 5) = 6");
    }

    private static void facts() {
        Edges.edge(14, "hand, signed: the CLERK's; ink, worn, bird: his QUILL's; wild, fine: of that BIRD; left, deed: his DEED's; lifted; hour", r -> {
            r.all("busy()", "act(2, 0, 3)", "set(1, 0, 7)");
            int[] due = {5, 24, 7, 2, 6, 4, 1, 1, 3, 3, 4};
            for (int i = 0; i < FACTS.length; i++) r.all("text(9)", "tell(0, 'writes " + FACTS[i] + ";') = 1", "who(0, 5) = " + due[i]);
        });
        for (String word : new String[] {"ink", "worn", "bird", "wild", "fine"}) {
            Edges.edge(14, "Without a QUILL: " + word + " 0", "quill(7, 9)", "set(1, 0, 9)", "clerk(5)",
                "tell(2, 'bird 0 wild 9 fine 9;bird 7 wild 9 fine 9;')", "tell(0, 'lifts " + word + "*9+5;')", "who(0, 7) = 5",
                "act(0, 0, 0)", "who(0, 7) = " + (word.equals("bird") ? 68 : 86), "act(1, 0, 0)", "who(0, 7) = 5");
        }
        Edges.edge(14, "AT no DEED: left 0, deed -1", "deed(30)", "deed(40)", "clerk(5)", "tell(0, 'lifts left+5;blots deed+5;')", "who(0, 7) = 5",
            "who(0, 6) = 4", "act(2, 0, 0)", "who(0, 7) = 35", "who(0, 6) = 5", "act(2, 0, 1)", "who(0, 7) = 45", "who(0, 6) = 6", "act(2, 0, NONE)",
            "who(0, 7) = 5", "who(0, 6) = 4");
        Edges.edge(14, "left: lines not WRITTEN, down to one", "one()", "tell(0, 'lifts 0;blots 0;writes left-1;')", "who(0, 5) = 19", "hours(1) = 19",
            "who(0, 5) = 0");
        Edges.edge(14, "hour: 0, and 9999", "clerk(0)", "tell(0, 'blots hour;lifts hour-9000;')", "who(0, 6) = 0", "166 times hours(60)", "hours(39)",
            "who(0, 7) = 999", "who(0, 6) = 1000");
    }

    private static void reckons() {
        Edges.edge(14, "Ints, which wrap: 2 to the 32 is 0", "one()", "tell(0, 'lifts 8192*8*8192*8+7;')", "who(0, 7) = 7");
        Edges.edge(14, "Ints, which wrap: by a sum, by a difference", "one()",
            "tell(0, 'lifts 8192*8*8192*4-1+8192*8*8192*4+8;blots 0-8192*8*8192*4-8192*8*8192*4+9;')", "who(0, 7) = 7", "who(0, 6) = 9");
        Edges.edge(14, "Ints, which wrap: then a part", "one()", "tell(0, 'lifts 8192*8*8192*4/9999+9999*21+4791+500;')", "who(0, 7) = 501");
        Edges.edge(14, "/ goes towards 0, also below it", "clerk(0)", "tell(0, 'writes 7/2;blots deed*7/2+10;lifts deed/2+10;')", "who(0, 5) = 3",
            "who(0, 6) = 7", "who(0, 7) = 10");
        Edges.edge(14, "/ by itself, by one more, by 9999", "clerk(0)", "tell(0, 'writes 7/7;blots 7/8;lifts 9999/9999;')", "who(0, 5) = 1", "who(0, 6) = 0",
            "who(0, 7) = 1");
        Edges.edge(14, "E = T {(+ | -) T}, T = U {* U | / NUMBER}: from the left on", "clerk(0)", "tell(0, 'writes 10-4-3;blots 100/7*7;lifts 5*7/2-3*2+1;')",
            "who(0, 5) = 3", "who(0, 6) = 98", "who(0, 7) = 12");
        Edges.edge(14, "<, > of ints, also far apart", "clerk(0)", "tell(0, 'writes 1 when 8192*8*8192*4<1;writes 2;blots 1 when 8192*8*8192*4>1;blots 2;')",
            "who(0, 5) = 1", "who(0, 6) = 2");
    }
}
