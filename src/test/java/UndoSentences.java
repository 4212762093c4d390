import java.util.function.Consumer;

/** Undoing and exceptions, and the promises 43 to 45, sentence by sentence. */
final class UndoSentences {
    private static final String TERMS = "Terms";

    private UndoSentences() {
    }

    static void check() {
        lastEight();
        modifications();
        outsideTheState();
        unchanged();
        firstException();
        undo();
        save();
        restore();
    }

    private static void dueUndos(String what, LineBattle b, int undos) {
        for (int left = undos - 1; left >= 0; left--) {
            int want = left;
            Check.due(what + ": still " + left, want, b::undo);
        }
        Check.thrown(what + ": no more", Scene.STATE, b::undo);
    }

    private static void lastEight() {
        Doc.says(TERMS, "Undo. The last 8 successful modifications can be undone.");
        for (int done = 0; done <= 18; done++) {
            LineBattle b = Scene.turns(new LineBattle(), done);
            dueUndos("of " + done, b, Math.min(8, done));
            Check.due("turns of " + done, Math.max(0, done - 8), b::turnCount);
        }
        LineBattle b = Scene.turns(new LineBattle(), 20);
        for (int i = 0; i < 5; i++) {
            b.undo();
        }
        Check.due("turns after five undone", 15, b::turnCount);
        Scene.add(b, "0 0 p 9 h");
        Scene.add(b, "1 0 p 9 h");
        Check.due("three and two, less one", 4, b::undo);
        Check.due("a line is left", 1, b::lineCount);
        Scene.turns(b, 6);
        dueUndos("four and six", b, 8);
        Check.due("no line is undone before the last eight", 0, b::lineCount);
        Check.due("turns then", 14, b::turnCount);
    }

    /** After one more modification, and then these calls, one undoing takes that modification back. */
    private static void isNone(String what, Consumer<LineBattle> calls) {
        LineBattle b = Scene.battle("0 0 p 9 h");
        b.turn();
        calls.accept(b);
        Check.due(what, 1, () -> {
            b.undo();
            return b.lineCount();
        });
        Check.due(what + ": the turn is undone", 0, b::turnCount);
        Check.due(what + ": the line can be undone", 0, b::undo);
    }

    private static void modifications() {
        Doc.says(TERMS, "The modifications are the successful calls of addLine, setOrder, rally, turn and execute.");
        LineBattle b = Scene.rout();
        String routed = Scene.state(b);
        b.addLine(1, 2, 's', 9);
        String added = Scene.state(b);
        b.setOrder(2, 'c');
        String ordered = Scene.state(b);
        b.setOrder(2, 'c');
        b.rally(0);
        String rallied = Scene.state(b);
        b.turn();
        String turned = Scene.state(b);
        Scene.run(b, "rally 1;turn;line 0 0 p 9;order 2 h");
        String[] states = {turned, rallied, ordered, ordered, added, routed};
        String[] names = {"execute, as one", "turn", "rally", "setOrder to the same", "setOrder", "addLine"};
        for (int i = 0; i < 6; i++) {
            int left = 7 - i;
            Check.due(names[i], left, b::undo);
            Check.due(names[i] + " undone", states[i], () -> Scene.state(b));
            Check.due(names[i] + ": consistent", true, b::isConsistent);
        }
        LineBattle nothing = new LineBattle();
        nothing.turn();
        Check.due("a turn without lines", 0, nothing::undo);
        isNone("type", x -> Scene.type(x, "turn"));
        isNone("save", LineBattle::save);
        isNone("writeLane", x -> x.writeLane(0));
        isNone("asking", x -> {
            Check.outcome(x::turnsUntilFight);
            Scene.state(x);
            x.isConsistent();
        });
        isNone("addLine refused", x -> Check.outcome(() -> x.addLine(0, 0, 'p', 9)));
        isNone("setOrder refused", x -> Check.outcome(() -> x.setOrder(0, 'x')));
        isNone("rally refused", x -> Check.outcome(() -> x.rally(0)));
        isNone("execute of a malformed text", x -> Check.outcome(() -> Scene.run(x, "turn;")));
        isNone("execute of a failing text", x -> Check.outcome(() -> Scene.run(x, "turn;rally 0")));
        isNone("undo", x -> {
            x.turn();
            x.undo();
        });
        isNone("restore refused", x -> Check.outcome(x::restore));
    }

    private static void outsideTheState() {
        Doc.says(TERMS, "The text buffer, the error position, the index of the failed command and the written text are "
            + "not part of the state that is undone, saved or restored.");
        LineBattle b = Scene.battle("0 0 p 9 h");
        Scene.type(b, "tu");
        b.writeLane(0);
        b.save();
        b.turn();
        Check.outcome(b::execute);
        Check.outcome(() -> Scene.run(b, "turn;rally 0"));
        Scene.type(b, "tur");
        Check.due("written", "p.........", () -> Scene.written(b));
        b.addLine(1, 1, 'n', 9);
        b.writeLane(1);
        Check.due("undo", 2, b::undo);
        dueOutside("undo", b, 2, 1, ".........N", 4);
        Check.due("restore", 1, b::restore);
        dueOutside("restore", b, 2, 1, ".........N", 5);
        b.save();
        dueOutside("save", b, 2, 1, ".........N", 6);
        LineBattle first = Scene.turns(new LineBattle(), 1);
        first.save();
        Scene.type(first, "turn;line 0 0 p 9");
        first.undo();
        Check.due("the text that was typed before", 2, first::execute);
        Check.due("turns", 1, first::turnCount);
        first.undo();
        Check.thrown("the text is not back when it is undone", Scene.ARGUMENT, first::execute);
        Check.due("it is empty", 0, first::errorPosition);
        first.restore();
        Check.due("the error position stays", 0, first::errorPosition);
        Check.thrown("no failed command is restored", Scene.NO_ELEMENT, first::failedCommand);
        Check.due("no written text is restored", "", () -> Scene.written(first));
    }

    private static void dueOutside(String what, LineBattle b, int error, int failed, String written, int typed) {
        Check.due(what + ": error position", error, b::errorPosition);
        Check.due(what + ": failed command", failed, b::failedCommand);
        Check.due(what + ": written text", written, () -> Scene.written(b));
        Check.due(what + ": buffer", typed, () -> b.type('n'));
    }

    private static void unchanged() {
        Doc.says(TERMS, "Exceptions. A method that throws an exception leaves the state unchanged, except that execute "
            + "empties the text buffer.");
        Scene.refused("addLine", Scene.ARGUMENT, Scene::rich, b -> b.addLine(0, 0, 'p', 100));
        Scene.refused("addLine, taken", Scene.UNSUPPORTED, Scene::rich, b -> b.addLine(0, 2, 'p', 9));
        Scene.refused("addLine, full", Scene.STATE, Scene::twelve, b -> b.addLine(0, 0, 'p', 9));
        Scene.refused("setOrder", Scene.BOUNDS, Scene::rich, b -> b.setOrder(5, 'h'));
        Scene.refused("setOrder, no order", Scene.ARGUMENT, Scene::rich, b -> b.setOrder(0, 'p'));
        Scene.refused("setOrder, routed", Scene.STATE, Scene::rich, b -> b.setOrder(1, 'h'));
        Scene.refused("setOrder, fallen", Scene.STATE, Scene::rich, b -> b.setOrder(3, 'h'));
        Scene.refused("rally", Scene.BOUNDS, Scene::rich, b -> b.rally(5));
        Scene.refused("rally, stands", Scene.STATE, Scene::rich, b -> b.rally(0));
        Scene.refused("rally, no jar", Scene.UNSUPPORTED, Scene::noJar, b -> b.rally(3));
        Scene.refused("lineIn", Scene.BOUNDS, Scene::rich, b -> b.lineIn(3, 0));
        Scene.refused("turnsUntilFight", Scene.NO_ELEMENT, Scene::rout, LineBattle::turnsUntilFight);
        Scene.refused("enemyAhead", Scene.NO_ELEMENT, Scene::rich, b -> b.enemyAhead(2));
        Scene.refused("frontOf", Scene.NO_ELEMENT, Scene::rich, b -> b.frontOf(1, 1));
        Scene.refused("lineByStrength", Scene.NO_ELEMENT, Scene::rich, b -> b.lineByStrength(5));
        Scene.refused("writeLane", Scene.BOUNDS, Scene::rich, b -> b.writeLane(3));
        Scene.refused("writtenAt", Scene.BOUNDS, Scene::rich, b -> b.writtenAt(-1));
        Scene.refused("type", Scene.ARGUMENT, Scene::rich, b -> b.type((char) 127));
        Scene.refused("undo", Scene.STATE, Scene::restored, LineBattle::undo);
        Scene.refused("restore", Scene.STATE, Scene::meeting, LineBattle::restore);
        for (String text : new String[] {"turn;rally 4", "turn;x"}) {
            LineBattle b = Scene.rich();
            String before = Scene.state(b) + Scene.written(b);
            Scene.type(b, "n;" + text);
            Check.due(text, true, () -> Check.outcome(b::execute).startsWith("throws"));
            Check.due(text + ": unchanged", before, () -> Scene.state(b) + Scene.written(b));
            Check.due(text + ": the buffer is empty", 1, () -> b.type('t'));
            Check.due(text + ": what can be undone", 0, b::undo);
            Check.due(text + ": the snapshot", 5, b::restore);
        }
    }

    private static void firstException() {
        Doc.says(TERMS, "If several exceptions apply, the one that is documented first is thrown.");
        LineBattle twelve = Scene.twelve();
        twelve.undo();
        Check.due("the first column is taken", 9, () -> twelve.lineIn(0, 0));
        Check.thrown("addLine: argument, state and not possible", Scene.ARGUMENT, () -> twelve.addLine(0, 0, 'p', 0));
        Check.thrown("addLine: argument and state", Scene.ARGUMENT, () -> twelve.addLine(1, 3, 'p', 9));
        Check.thrown("addLine: state and not possible", Scene.STATE, () -> twelve.addLine(0, 0, 'p', 9));
        LineBattle rich = Scene.rich();
        Check.thrown("addLine: argument and not possible", Scene.ARGUMENT, () -> rich.addLine(0, 2, 'h', 9));
        Check.thrown("addLine: not possible alone", Scene.UNSUPPORTED, () -> rich.addLine(0, 2, 'p', 9));
        Check.thrown("setOrder: no line and no order", Scene.BOUNDS, () -> rich.setOrder(5, 'x'));
        Check.thrown("setOrder: no line, below 0, and no order", Scene.BOUNDS, () -> rich.setOrder(-1, 'x'));
        Check.thrown("setOrder: no order, and routed", Scene.ARGUMENT, () -> rich.setOrder(1, 'x'));
        Check.thrown("setOrder: no order, and fallen", Scene.ARGUMENT, () -> rich.setOrder(3, 'x'));
        LineBattle noJar = Scene.noJar();
        Check.thrown("rally: stands, and no jar", Scene.STATE, () -> noJar.rally(1));
        Check.thrown("rally: no line, and no jar", Scene.BOUNDS, () -> noJar.rally(4));
        Check.thrown("lineIn: no cell, and no line in it", Scene.BOUNDS, () -> rich.lineIn(0, 10));
        Check.thrown("frontOf: no side, and no line", Scene.ARGUMENT, () -> rich.frontOf(2, 0));
        Check.thrown("frontOf: no lane, and no line", Scene.ARGUMENT, () -> rich.frontOf(1, 3));
        LineBattle full = new LineBattle();
        Scene.type(full, "rally 0;turn;turn;turn;turn;turn;turn;turn;turn;turn;turn;  ");
        Check.thrown("type: no character, and full", Scene.ARGUMENT, () -> full.type((char) 31));
        Check.thrown("type: no character above, and full", Scene.ARGUMENT, () -> full.type((char) 127));
        Check.thrown("execute: malformed, and failing before", Scene.ARGUMENT, full::execute);
        Check.thrown("execute: no failed command then", Scene.NO_ELEMENT, full::failedCommand);
        Check.due("execute: the error position", 58, full::errorPosition);
    }

    private static void undo() {
        Doc.says(43, "Undoes the last modification that can be undone.");
        LineBattle b = Scene.meeting();
        String[] states = new String[9];
        for (int i = 0; i < 9; i++) {
            states[i] = Scene.state(b);
            b.turn();
        }
        for (int i = 8; i >= 1; i--) {
            String want = states[i];
            b.undo();
            Check.due("before turn " + (i + 1), want, () -> Scene.state(b));
            Check.due("consistent", true, b::isConsistent);
        }
        Check.thrown("not the first of nine", Scene.STATE, b::undo);
        Check.due("after the first turn", states[1], () -> Scene.state(b));
        Scene.turns(b, 8);
        Check.due("the same turns again", "n........C!", () -> Scene.lane(b, 0));
        Doc.says(43, "Returns the number of modifications that can still be undone.");
        LineBattle c = Scene.turns(new LineBattle(), 9);
        dueUndos("of nine", c, 8);
        c.turn();
        dueUndos("of one", c, 1);
        Doc.says(43, "Throws IllegalStateException if there is none");
        Scene.refused("new", Scene.STATE, LineBattle::new, LineBattle::undo);
        Scene.refused("after restore", Scene.STATE, Scene::restored, LineBattle::undo);
        Check.thrown("all undone", Scene.STATE, c::undo);
        Check.due("turns", 1, c::turnCount);
    }

    private static void save() {
        Doc.says(44, "Saves the state as a snapshot, which replaces an earlier snapshot.");
        LineBattle b = Scene.rout();
        b.save();
        String first = Scene.state(b);
        b.rally(0);
        b.turn();
        Scene.add(b, "1 2 s 9 c");
        String later = Scene.state(b);
        b.restore();
        Check.due("the first", first, () -> Scene.state(b));
        b.rally(0);
        b.turn();
        Scene.add(b, "1 2 s 9 c");
        b.save();
        Scene.turns(b, 4);
        b.restore();
        Check.due("the later", later, () -> Scene.state(b));
        Doc.says(44, "Returns the number of lines.");
        Check.due("none", 0, () -> new LineBattle().save());
        Check.due("the fallen count", 2, () -> Scene.fall().save());
        Check.due("twelve", 12, () -> Scene.twelve().save());
    }

    private static void restore() {
        Doc.says(45, "Restores the snapshot, which is kept.");
        LineBattle b = Scene.rich();
        String kept = Scene.state(Scene.restored());
        for (int i = 0; i < 3; i++) {
            b.restore();
            Check.due("restored", kept, () -> Scene.state(b));
            Check.due("consistent", true, b::isConsistent);
            Check.thrown("the next cell of a line is empty", Scene.NO_ELEMENT, () -> b.lineIn(0, 6));
            Scene.turns(b, 2);
            Scene.add(b, "0 1 c 7 a");
            b.rally(1);
        }
        LineBattle other = Scene.battle("0 0 p 7 c");
        other.save();
        other.undo();
        other.undo();
        Scene.add(other, "1 2 s 9 a");
        other.restore();
        Check.due("the line that another had replaced", "turn 0 fights 0 jars 33 / 0p 0 7 10 c 0",
            () -> Scene.state(other));
        Check.due("its lane", 0, () -> other.laneOf(0));
        Check.thrown("the other's cell", Scene.NO_ELEMENT, () -> other.lineIn(2, 9));
        Doc.says(45, "Afterwards nothing can be undone.");
        LineBattle c = Scene.turns(new LineBattle(), 9);
        c.save();
        Check.due("save leaves the undoing", 7, c::undo);
        c.restore();
        Check.thrown("nothing", Scene.STATE, c::undo);
        Check.due("turns", 9, c::turnCount);
        Scene.turns(c, 2);
        dueUndos("only what came after", c, 2);
        Check.due("turns again", 9, c::turnCount);
        Doc.says(45, "Returns the number of lines.");
        LineBattle twelve = Scene.twelve();
        twelve.save();
        twelve.undo();
        twelve.undo();
        twelve.undo();
        Check.due("lines before", 11, twelve::lineCount);
        Check.due("twelve", 12, twelve::restore);
        Check.due("lines after", 12, twelve::lineCount);
        LineBattle none = new LineBattle();
        none.save();
        Scene.add(none, "0 0 p 9 h");
        Check.due("none", 0, none::restore);
        Doc.says(45, "Throws IllegalStateException if there is no snapshot");
        Scene.refused("new", Scene.STATE, LineBattle::new, LineBattle::restore);
        Scene.refused("without save", Scene.STATE, Scene::rout, LineBattle::restore);
        LineBattle undone = Scene.rout();
        undone.save();
        Scene.turns(undone, 1);
        undone.undo();
        undone.undo();
        Check.due("the snapshot outlasts undoing", 2, undone::restore);
        Check.due("turns of it", 5, undone::turnCount);
    }
}
