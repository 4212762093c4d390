/** The text and the promises 39 to 42, sentence by sentence. */
final class TextSentences {
    private static final String TERMS = "Terms";
    private static final String DIGITS = "0123456789";
    private static final String TEN_TURNS = "turn;turn;turn;turn;turn;turn;turn;turn;turn;turn";
    private static final String TWELVE_TURNS = TEN_TURNS + ";turn;turn";

    private TextSentences() {
    }

    static void check() {
        buffer();
        grammar();
        meaning();
        errors();
        type();
        execute();
        allOrNone();
        refusals();
        errorPosition();
        failedCommand();
    }

    private static void buffer() {
        Doc.says(TERMS, "Text. Characters are collected in a buffer of at most 60 characters.");
        LineBattle b = new LineBattle();
        Check.due("59", 59, () -> Scene.type(b, TWELVE_TURNS));
        Check.due("60", 60, () -> b.type(';'));
        Check.thrown("61", Scene.STATE, () -> b.type(';'));
        Check.thrown("all 60 count", Scene.ARGUMENT, b::execute);
        Check.due("the end of 60", 60, b::errorPosition);
        LineBattle full = Scene.battle("0 0 p 9 h");
        Check.due("a valid text of 60", 60, () -> Scene.type(full, "order 00 c;" + TEN_TURNS));
        Check.due("all of it is done", 11, full::execute);
        Scene.due(full, 0, "9 9 10 c");
        Check.due("turns", 10, full::turnCount);
    }

    /** Of all characters that may be typed, exactly the allowed ones continue this beginning of a text. */
    private static void dueNext(String beginning, String allowed) {
        for (char next = 32; next <= 126; next++) {
            LineBattle b = new LineBattle();
            String text = beginning + next;
            boolean malformed = Check.outcome(() -> Scene.run(b, text)).equals("throws.IllegalArgumentException");
            int position = malformed ? b.errorPosition() : text.length();
            int want = allowed.indexOf(next) >= 0 ? text.length() : beginning.length();
            Check.due("'" + text + "'", want, () -> position);
        }
    }

    private static void dueEnd(String text, boolean complete) {
        LineBattle b = new LineBattle();
        boolean malformed = Check.outcome(() -> Scene.run(b, text)).equals("throws.IllegalArgumentException");
        Check.due("'" + text + "' is complete", complete, () -> !malformed);
        Check.due("'" + text + "': error position", complete ? "throws.NoSuchElementException" : text.length(),
            b::errorPosition);
    }

    private static void word(String before, String word) {
        for (int i = 1; i < word.length(); i++) {
            dueNext(before + word.substring(0, i), word.substring(i, i + 1));
            dueEnd(before + word.substring(0, i), false);
        }
    }

    private static void grammar() {
        Doc.says(TERMS, "A command text has the following grammar, with terminals in quotes: text = command { \";\" "
            + "command };");
        String[] commands = {"line 0 0 p 12", "order 12 h", "rally 12", "turn"};
        for (String first : commands) {
            dueEnd(first, true);
            dueNext(first, ";");
            dueEnd(first + ";", false);
            dueNext(first + ";", "lort");
            for (String second : commands) {
                dueEnd(first + ";" + second, true);
            }
        }
        dueEnd("", false);
        dueEnd(TWELVE_TURNS, true);
        dueEnd(TWELVE_TURNS + ";", false);
        Doc.says(TERMS, "command = \"line\" d d \" \" kind n | \"order\" n \" \" order | \"rally\" n | \"turn\";");
        dueNext("", "lort");
        for (String before : new String[] {"", "turn;", "line 1 2 n 3;"}) {
            word(before, "line ");
            word(before, "order ");
            word(before, "rally ");
            word(before, "turn");
        }
        dueNext("line 0 0", " ");
        dueNext("line 0 0 p", " ");
        dueNext("order 12", " ");
        dueEnd("turn", true);
        Doc.says(TERMS, "kind = \"p\" | \"n\" | \"c\" | \"s\";");
        dueNext("line 0 0 ", "pncs");
        dueEnd("line 0 0 ", false);
        Doc.says(TERMS, "order = \"h\" | \"a\" | \"c\";");
        dueNext("order 0 ", "hac");
        dueEnd("order 0 ", false);
        Doc.says(TERMS, "d is a blank and a decimal digit, and n is a blank and one or two decimal digits.");
        dueNext("line", " ");
        dueNext("line ", DIGITS);
        dueNext("line 9", " ");
        dueNext("line 9 ", DIGITS);
        dueNext("line 9 9", " ");
        String[] numbers = {"line 9 9 s", "rally"};
        for (String before : numbers) {
            dueNext(before, " ");
            dueEnd(before, false);
            dueNext(before + " ", DIGITS);
            dueEnd(before + " ", false);
            dueNext(before + " 0", DIGITS + ";");
            dueEnd(before + " 0", true);
            dueNext(before + " 09", ";");
            dueEnd(before + " 09", true);
        }
        dueNext("order", " ");
        dueNext("order ", DIGITS);
        dueNext("order 9", DIGITS + " ");
        dueNext("order 90", " ");
    }

    private static void meaning() {
        Doc.says(TERMS, "The commands stand for addLine, setOrder, rally and turn, with their parameters in order.");
        LineBattle b = new LineBattle();
        Check.due("line", 1, () -> Scene.run(b, "line 1 2 n 34"));
        Check.due("side", 1, () -> b.sideOf(0));
        Check.due("lane", 2, () -> b.laneOf(0));
        Check.due("kind", 'n', () -> b.kindOf(0));
        Scene.due(b, 0, "9 34 10 h");
        for (String kind : new String[] {"p", "c", "s"}) {
            LineBattle k = new LineBattle();
            Scene.run(k, "line 0 1 " + kind + " 9");
            Check.due("kind " + kind, kind, () -> k.kindOf(0));
            Scene.due(k, 0, "0 9 10 h");
        }
        Check.due("order", 1, () -> Scene.run(b, "order 00 c"));
        Scene.due(b, 0, "9 34 10 c");
        Check.due("turn", 1, () -> Scene.run(b, "turn"));
        Check.due("turns", 1, b::turnCount);
        Scene.due(b, 0, "7 34 10 c");
        Scene.run(b, "order 0 a;turn;order 0 h;turn");
        Scene.due(b, 0, "6 34 11 h");
        LineBattle r = Scene.rout();
        Check.due("rally", 1, () -> Scene.run(r, "rally 1"));
        Scene.due(r, 1, "5 36 9 h");
        Check.due("jars of 1", 2, () -> r.jarsOf(1));
        LineBattle twelve = Scene.twelve();
        Check.due("a line of two digits", 1, () -> Scene.run(twelve, "order 11 c"));
        Check.due("its order", 'c', () -> twelve.orderOf(11));
    }

    private static void errors() {
        Doc.says(TERMS, "The error position of a malformed text is the index of its first character that cannot "
            + "continue any valid text, or its length if it ends too early.");
        String[] texts = {"", "0", "x", "0", ";", "0", " turn", "0", "Turn", "0", "tarn", "1", "tur", "3", "turn ", "4",
            "turnturn", "4", "turn;", "5", "turn;;turn", "5", "turn; turn", "5", "turn;x;y", "5",
            "line 0 0 p 1;o", "14", "line 0 0 p 100", "13", "line 00 p 1", "6", "line 0 0 p", "10",
            "line 0 0 p ", "11", "line  0 0 p 1", "5",
            "line -1 0 p 1", "5", "line 0 0 P 1", "9", "line 0 0 h 1", "9", "line 0 0 pp 1", "10", "order 1 p", "8",
            "order 1", "7", "order h", "6", "order 123 h", "8", "order 1 hh", "9", "rally 1 ", "7", "rally 123", "8",
            "rally x;turn", "6", TWELVE_TURNS + ";", "60", TWELVE_TURNS + "x", "59",
            TWELVE_TURNS.substring(0, 58) + "x", "58"};
        for (int i = 0; i < texts.length; i += 2) {
            String text = texts[i];
            LineBattle b = new LineBattle();
            Check.thrown("'" + text + "'", Scene.ARGUMENT, () -> Scene.run(b, text));
            Check.due("'" + text + "'", texts[i + 1], b::errorPosition);
        }
    }

    private static LineBattle full() {
        LineBattle b = Scene.battle("0 0 p 9 h");
        Scene.type(b, TWELVE_TURNS + ";");
        return b;
    }

    private static void type() {
        Doc.says(39, "Appends a character to the text buffer.");
        LineBattle b = new LineBattle();
        Scene.type(b, "tur");
        Check.due("appended", 4, () -> b.type('n'));
        Check.due("in this order", 1, b::execute);
        Doc.says(39, "character: the character");
        LineBattle all = new LineBattle();
        for (char sign = 32; sign < 92; sign++) {
            char s = sign;
            Check.due("" + s, s - 31, () -> all.type(s));
        }
        Check.thrown("text of them", Scene.ARGUMENT, all::execute);
        for (char sign = 92; sign < 127; sign++) {
            char s = sign;
            Check.due("" + s, s - 91, () -> all.type(s));
        }
        Doc.says(39, "Returns the number of characters in the buffer.");
        LineBattle counted = new LineBattle();
        for (int i = 1; i <= 60; i++) {
            int number = i;
            Check.due("character " + number, number, () -> counted.type('t'));
        }
        Check.outcome(counted::execute);
        Check.due("after execute", 1, () -> counted.type('t'));
        Doc.says(39, "Throws IllegalArgumentException if the character is not from 32 to 126");
        for (int wrong : new int[] {0, 9, 10, 31, 127, 128, 255, 256, 65535}) {
            Scene.refused("character " + wrong, Scene.ARGUMENT, Scene::rich, x -> x.type((char) wrong));
        }
        Check.due("32", 1, () -> new LineBattle().type((char) 32));
        Check.due("126", 1, () -> new LineBattle().type((char) 126));
        Doc.says(39, "Throws IllegalStateException if the buffer contains 60 characters");
        for (char sign : new char[] {32, 'x', 126}) {
            Scene.refused("a 61st, " + (int) sign, Scene.STATE, TextSentences::full, x -> x.type(sign));
        }
    }

    private static void execute() {
        Doc.says(40, "Executes the text in the buffer, which is empty afterwards.");
        LineBattle b = new LineBattle();
        Check.due("done", 1, () -> Scene.run(b, "turn"));
        Check.due("empty when done", 1, () -> b.type('t'));
        Check.thrown("malformed", Scene.ARGUMENT, b::execute);
        Check.due("empty when malformed", 1, () -> b.type('t'));
        Check.thrown("failing", Scene.STATE, () -> Scene.run(b, "urn;rally 0"));
        Check.due("empty when failing", 1, () -> b.type('t'));
        LineBattle empty = new LineBattle();
        Scene.run(empty, "turn;turn");
        Check.thrown("nothing is left", Scene.ARGUMENT, empty::execute);
        Check.due("of length 0", 0, empty::errorPosition);
        Check.thrown("nothing is left behind a shorter text", Scene.ARGUMENT, () -> Scene.run(empty, "turn;"));
        Check.due("of length 5", 5, empty::errorPosition);
        Check.due("turns", 2, empty::turnCount);
        Doc.says(40, "Returns the number of commands.");
        Check.due("one", 1, () -> Scene.run(new LineBattle(), "turn"));
        Check.due("two", 2, () -> Scene.run(new LineBattle(), "turn;line 0 0 p 9"));
        Check.due("five", 5, () -> Scene.run(new LineBattle(), "line 0 0 p 9;line 1 0 p 9;order 0 c;order 1 a;turn"));
        LineBattle twelve = new LineBattle();
        Check.due("twelve", 12, () -> Scene.run(twelve, TWELVE_TURNS));
        Check.due("twelve turns", 12, twelve::turnCount);
    }

    private static void allOrNone() {
        Doc.says(40, "The commands are executed in order, all of them or none: if a command fails, the effects "
            + "of the commands before it are taken back.");
        LineBattle b = new LineBattle();
        Check.due("in order", 5, () -> Scene.run(b, "line 0 0 p 9;order 0 c;turn;order 0 a;turn"));
        Scene.due(b, 0, "3 9 10 a");
        String[] taken = {"turn;rally 4", "line 0 1 n 9;line 0 1 n 9", "order 4 c;turn;rally 12",
            "rally 1;turn;rally 0", "rally 1;line 1 0 s 9;rally 1;rally 1", TEN_TURNS + ";rally 0"};
        for (String text : taken) {
            LineBattle rich = Scene.rich();
            Check.outcome(rich::execute);
            String before = Scene.state(rich);
            Check.thrown("'" + text + "'", Scene.STATE, () -> Scene.run(rich, text));
            Check.due("'" + text + "': taken back", before, () -> Scene.state(rich));
            Check.due("'" + text + "': consistent", true, rich::isConsistent);
            Check.due("'" + text + "': what can be undone", 0, rich::undo);
        }
        LineBattle fought = Scene.turns(Scene.battle("0 0 n 60 a", "1 0 c 60 a", "0 1 c 99 a", "1 1 s 9 a"), 4);
        String unfought = Scene.state(fought);
        Check.thrown("fights, a rout, a fall and a jar", Scene.STATE,
            () -> Scene.run(fought, "turn;rally 0;turn;rally 9"));
        Check.due("its command", 3, fought::failedCommand);
        Check.due("all of it taken back", unfought, () -> Scene.state(fought));
        Check.due("in their cells", "....nC....", () -> Scene.lane(fought, 0));
        Check.due("the fallen one, too", "....cS....", () -> Scene.lane(fought, 1));
        Check.due("the same fights again", 3, fought::turn);
        LineBattle malformed = new LineBattle();
        Check.thrown("malformed at its end", Scene.ARGUMENT, () -> Scene.run(malformed, "turn;line 0 0 p 9;x"));
        Check.due("no turn", 0, malformed::turnCount);
        Check.due("no line", 0, malformed::lineCount);
        Doc.says(40, "A command fails if the method for it would throw an exception.");
        String[] failing = {"line 2 0 p 9", "line 9 0 p 9", "line 0 3 p 9", "line 0 9 p 9", "line 0 0 p 0",
            "line 0 0 p 00", "line 0 2 p 9;line 0 2 p 9", "order 5 h", "order 99 h", "order 1 h", "order 3 h",
            "rally 5", "rally 99", "rally 0", "rally 3"};
        for (String text : failing) {
            LineBattle rich = Scene.rich();
            Check.outcome(rich::execute);
            Check.thrown("'" + text + "'", Scene.STATE, () -> Scene.run(rich, text));
        }
        LineBattle twelve = Scene.twelve();
        Check.thrown("a thirteenth line", Scene.STATE, () -> Scene.run(twelve, "line 0 0 p 9"));
        LineBattle twice = Scene.hitInTurnFive(90);
        Check.thrown("standing after two jars", Scene.STATE, () -> Scene.run(twice, "rally 1;rally 1;rally 1"));
        Check.due("the third", 2, twice::failedCommand);
        LineBattle none = Scene.noJar();
        Check.thrown("no jar", Scene.STATE, () -> Scene.run(none, "rally 3"));
        none.undo();
        Check.due("a last jar", 1, () -> Scene.run(none, "rally 3"));
        Check.due("the strengths 1 and 99", 2, () -> Scene.run(new LineBattle(), "line 1 2 s 1;line 0 0 s 99"));
    }

    private static void refusals() {
        Doc.says(40, "Throws IllegalArgumentException if the text is malformed; its error position is stored");
        LineBattle b = new LineBattle();
        Check.thrown("first", Scene.ARGUMENT, () -> Scene.run(b, "turn;tu"));
        Check.due("stored", 7, b::errorPosition);
        Check.thrown("second", Scene.ARGUMENT, b::execute);
        Check.due("stored then", 0, b::errorPosition);
        Check.thrown("no failed command", Scene.NO_ELEMENT, b::failedCommand);
        Check.thrown("no modification", Scene.STATE, b::undo);
        Doc.says(40, "Throws IllegalStateException if a command fails; its index is stored");
        LineBattle c = new LineBattle();
        Check.thrown("first", Scene.STATE, () -> Scene.run(c, "turn;turn;rally 0;turn;rally 0"));
        Check.due("stored", 2, c::failedCommand);
        Check.thrown("second", Scene.STATE, () -> Scene.run(c, "rally 0;turn"));
        Check.due("stored then", 0, c::failedCommand);
        Check.thrown("no error position", Scene.NO_ELEMENT, c::errorPosition);
        Check.thrown("no modification", Scene.STATE, c::undo);
    }

    private static void errorPosition() {
        Doc.says(41, "Returns the error position of the last malformed text.");
        LineBattle b = new LineBattle();
        Check.outcome(() -> Scene.run(b, "turn;turn;x"));
        Check.due("the first", 10, b::errorPosition);
        Check.due("asked again", 10, b::errorPosition);
        Check.outcome(() -> Scene.run(b, "turn"));
        Check.due("after a good text", 10, b::errorPosition);
        Check.outcome(() -> Scene.run(b, "rally 0"));
        Check.due("after a failing text", 10, b::errorPosition);
        Check.outcome(() -> Scene.run(b, "ta"));
        Check.due("the last", 1, b::errorPosition);
        Doc.says(41, "Returns the error position.");
        LineBattle full = new LineBattle();
        Check.outcome(full::execute);
        Check.due("the least", 0, full::errorPosition);
        Check.outcome(() -> Scene.run(full, TWELVE_TURNS + ";"));
        Check.due("the greatest", 60, full::errorPosition);
        Doc.says(41, "Throws NoSuchElementException if no text was malformed so far");
        LineBattle none = new LineBattle();
        Check.thrown("new", Scene.NO_ELEMENT, none::errorPosition);
        Scene.run(none, "turn");
        Check.thrown("after a good text", Scene.NO_ELEMENT, none::errorPosition);
        Check.outcome(() -> Scene.run(none, "rally 0"));
        Check.thrown("after a failing text", Scene.NO_ELEMENT, none::errorPosition);
        Scene.type(none, "x");
        Check.thrown("not executed yet", Scene.NO_ELEMENT, none::errorPosition);
    }

    private static void failedCommand() {
        Doc.says(42, "Returns the index of the command that failed in the last text that had one.");
        LineBattle b = new LineBattle();
        Check.outcome(() -> Scene.run(b, "turn;rally 0"));
        Check.due("the first", 1, b::failedCommand);
        Check.due("asked again", 1, b::failedCommand);
        Check.outcome(() -> Scene.run(b, "turn"));
        Check.due("after a good text", 1, b::failedCommand);
        Check.outcome(() -> Scene.run(b, "x"));
        Check.due("after a malformed text", 1, b::failedCommand);
        Check.outcome(() -> Scene.run(b, "turn;turn;order 0 h"));
        Check.due("the last", 2, b::failedCommand);
        Doc.says(42, "Returns the index of the command, from 0.");
        LineBattle c = new LineBattle();
        Check.outcome(() -> Scene.run(c, "rally 0"));
        Check.due("the least", 0, c::failedCommand);
        Check.outcome(() -> Scene.run(c, TEN_TURNS + ";rally 0"));
        Check.due("the greatest", 10, c::failedCommand);
        Doc.says(42, "Throws NoSuchElementException if no command failed so far");
        LineBattle none = new LineBattle();
        Check.thrown("new", Scene.NO_ELEMENT, none::failedCommand);
        Scene.run(none, "turn");
        Check.thrown("after a good text", Scene.NO_ELEMENT, none::failedCommand);
        Check.outcome(() -> Scene.run(none, "x"));
        Check.thrown("after a malformed text", Scene.NO_ELEMENT, none::failedCommand);
        Check.outcome(() -> none.rally(0));
        Check.thrown("after a refused call", Scene.NO_ELEMENT, none::failedCommand);
    }
}
