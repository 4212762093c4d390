/** The promises that ask for a single line, 6 to 16 and 18 to 23, and its number in 3 and 4, sentence by sentence. */
final class LineSentences {
    private LineSentences() {
    }

    private interface LineCall {
        Object of(LineBattle b, int line);
    }

    static void check() {
        numbers();
        lineCount();
        places();
        values();
        conditions();
        strengths();
        support();
        enemies();
    }

    /** In a call that takes a line, its numbers go from 0 to the last that was added. */
    private static void ofLine(int promise, LineCall call) {
        Doc.says(promise, "line: number of the line");
        for (int line : new int[] {0, 11}) {
            String answer = Check.outcome(() -> call.of(Scene.twelve(), line));
            Check.due("line " + line, false, () -> answer.contains("Index"));
        }
        Doc.says(promise, "Throws IndexOutOfBoundsException if there is no such line");
        for (int wrong : new int[] {-1, 5, 11, 12, Integer.MIN_VALUE, Integer.MAX_VALUE}) {
            Scene.refused("line " + wrong, Scene.BOUNDS, Scene::rich, b -> call.of(b, wrong));
        }
        Scene.refused("12 of 12", Scene.BOUNDS, Scene::twelve, b -> call.of(b, 12));
        Scene.refused("0 of none", Scene.BOUNDS, LineBattle::new, b -> call.of(b, 0));
        LineBattle undone = Scene.battle("0 0 p 9 h", "1 0 p 9 h");
        undone.undo();
        Check.thrown("undone", Scene.BOUNDS, () -> call.of(undone, 1));
    }

    /** In a call that a fallen line refuses. */
    private static void unfallen(int promise, String sentence, LineCall call) {
        Doc.says(promise, sentence);
        Scene.refused("enemy fallen", Scene.NO_ELEMENT, Scene::rich, b -> call.of(b, 3));
        Scene.refused("attacker fallen", Scene.NO_ELEMENT, Scene::attackerFalls, b -> call.of(b, 0));
        LineBattle undone = Scene.fall();
        undone.undo();
        Check.due("undone", false, () -> Check.outcome(() -> call.of(undone, 1)).startsWith("throws"));
    }

    private static void numbers() {
        ofLine(3, (b, line) -> b.setOrder(line, 'h'));
        ofLine(4, LineBattle::rally);
        ofLine(7, LineBattle::sideOf);
        ofLine(8, LineBattle::laneOf);
        ofLine(9, LineBattle::columnOf);
        ofLine(10, LineBattle::kindOf);
        ofLine(11, LineBattle::strengthOf);
        ofLine(12, LineBattle::moraleOf);
        ofLine(13, LineBattle::orderOf);
        ofLine(14, LineBattle::isStanding);
        ofLine(15, LineBattle::isRouted);
        ofLine(16, LineBattle::routedTurns);
        ofLine(18, LineBattle::attackOf);
        ofLine(19, LineBattle::counterOf);
        ofLine(20, LineBattle::supportOf);
        ofLine(21, LineBattle::supportByLines);
        ofLine(22, LineBattle::enemyAhead);
        ofLine(23, LineBattle::enemyByDistances);
    }

    private static void lineCount() {
        Doc.says(6, "Returns the number of lines that were added.");
        LineBattle b = new LineBattle();
        Check.due("none", 0, b::lineCount);
        Scene.add(b, "0 0 p 9 h");
        Check.due("one", 1, b::lineCount);
        Check.outcome(() -> b.addLine(0, 0, 'p', 9));
        Check.due("one refused", 1, b::lineCount);
        Scene.add(b, "1 0 p 9 h");
        Check.due("two", 2, b::lineCount);
        b.undo();
        Check.due("one undone", 1, b::lineCount);
        Doc.says(6, "Returns the number of lines.");
        Check.due("the fallen count", 2, () -> Scene.fall().lineCount());
        Check.due("twelve", 12, () -> Scene.twelve().lineCount());
    }

    private static void places() {
        LineBattle b = Scene.rich();
        LineBattle corners = Scene.battle("1 2 p 9 h", "0 2 p 9 h", "1 0 p 9 h", "0 0 p 9 h", "0 1 p 9 h", "1 1 p 9 h");
        Doc.says(7, "Returns the side of a line.");
        Check.due("of the routed", 1, () -> b.sideOf(1));
        Check.due("of the fallen", 1, () -> b.sideOf(3));
        Doc.says(7, "Returns 0 or 1.");
        Check.due("1", 1, () -> corners.sideOf(0));
        Check.due("0", 0, () -> corners.sideOf(1));
        Doc.says(8, "Returns the lane of a line.");
        Check.due("of the routed", 0, () -> b.laneOf(1));
        Check.due("of one that stands", 1, () -> b.laneOf(2));
        Doc.says(8, "Returns the lane.");
        int[] lanes = {2, 2, 0, 0, 1, 1};
        for (int i = 0; i < 6; i++) {
            int line = i;
            Check.due("line " + line, lanes[line], () -> corners.laneOf(line));
        }
        unfallen(8, "Throws NoSuchElementException if it has fallen", LineBattle::laneOf);
        Doc.says(9, "Returns the column of a line.");
        Check.due("of the routed", 7, () -> b.columnOf(1));
        Check.due("of one that stands", 5, () -> b.columnOf(0));
        Doc.says(9, "Returns the column.");
        Check.due("9", 9, () -> corners.columnOf(0));
        Check.due("0", 0, () -> corners.columnOf(1));
        unfallen(9, "Throws NoSuchElementException if it has fallen", LineBattle::columnOf);
    }

    private static void values() {
        LineBattle b = Scene.rich();
        Doc.says(10, "Returns the kind of a line.");
        Check.due("of the routed side 1", 'c', () -> b.kindOf(1));
        Check.due("of the fallen", 's', () -> b.kindOf(3));
        Doc.says(10, "Returns p, n, c or s.");
        LineBattle kinds = Scene.battle("0 0 p 9 h", "1 0 n 9 h", "1 1 c 9 h", "0 1 s 9 h");
        for (int i = 0; i < 4; i++) {
            int line = i;
            Check.due("line " + line, "pncs".charAt(line), () -> kinds.kindOf(line));
        }
        Doc.says(11, "Returns the strength of a line.");
        Check.due("new", 9, () -> kinds.strengthOf(3));
        Check.due("after two fights", 41, () -> Scene.rout().strengthOf(0));
        Doc.says(11, "Returns the strength, 0 if it has fallen.");
        Check.due("fallen", 0, () -> b.strengthOf(3));
        Check.due("fallen as the attacker", 0, () -> Scene.attackerFalls().strengthOf(0));
        Check.due("the least", 1, () -> Scene.battle("0 0 p 1 h").strengthOf(0));
        Check.due("the greatest", 99, () -> Scene.battle("0 0 p 99 h").strengthOf(0));
        Doc.says(12, "Returns the morale of a line.");
        Check.due("new", 10, () -> kinds.moraleOf(3));
        Check.due("routed", 2, () -> b.moraleOf(1));
        Check.due("fallen", 2, () -> b.moraleOf(3));
        Doc.says(12, "Returns the morale.");
        Check.due("the greatest", 20, () -> Scene.turns(Scene.battle("0 0 p 1 h"), 12).moraleOf(0));
        Check.due("the least", 0, () -> Scene.turns(Scene.battle("0 0 c 99 a", "1 0 s 30 a"), 5).moraleOf(1));
    }

    private static void conditions() {
        LineBattle b = Scene.rich();
        Doc.says(13, "Returns the order of a line.");
        Check.due("a", 'a', () -> b.orderOf(0));
        Check.due("c", 'c', () -> b.orderOf(2));
        Doc.says(13, "Returns h, a or c.");
        LineBattle orders = Scene.battle("0 0 p 9 h", "0 1 p 9 a", "0 2 p 9 c");
        for (int i = 0; i < 3; i++) {
            int line = i;
            Check.due("line " + line, "hac".charAt(line), () -> orders.orderOf(line));
        }
        Doc.says(13, "Throws IllegalStateException if the line does not stand");
        Scene.refused("routed", Scene.STATE, Scene::rich, x -> x.orderOf(1));
        Scene.refused("fallen", Scene.STATE, Scene::rich, x -> x.orderOf(3));
        Scene.refused("fallen as the attacker", Scene.STATE, Scene::attackerFalls, x -> x.orderOf(0));
        Check.due("stands again", 'h', () -> Scene.turns(Scene.rout(), 4).orderOf(0));
        Doc.says(14, "Returns whether a line stands.");
        Check.due("stands", true, () -> b.isStanding(0));
        Check.due("routed", false, () -> b.isStanding(1));
        Doc.says(14, "Returns whether it stands.");
        Check.due("fallen", false, () -> b.isStanding(3));
        Check.due("stands again", true, () -> Scene.turns(Scene.rout(), 4).isStanding(0));
        Doc.says(15, "Returns whether a line is routed.");
        Check.due("stands", false, () -> b.isRouted(0));
        Check.due("routed", true, () -> b.isRouted(1));
        Doc.says(15, "Returns whether it is routed.");
        Check.due("fallen", false, () -> b.isRouted(3));
        Check.due("stands again", false, () -> Scene.turns(Scene.rout(), 4).isRouted(0));
        routedTurns();
    }

    private static void routedTurns() {
        Doc.says(16, "Returns how many turns a line has been routed so far, all its routs together: in how many "
            + "turns it acted as a routed line.");
        LineBattle b = Scene.rout();
        int[] first = {0, 1, 2, 3, 4, 4, 4};
        int[] second = {0, 1, 2, 3, 4, 5, 5};
        for (int i = 0; i < 7; i++) {
            int turn = i;
            Check.due("line 0 after " + turn, first[turn], () -> b.routedTurns(0));
            Check.due("line 1 after " + turn, second[turn], () -> b.routedTurns(1));
            b.turn();
        }
        Check.due("routed before it acts", 1, () -> Scene.hitInTurnFive(99).routedTurns(1));
        // Line 1 is routed in turn 5, rallied, and routed again in turn 8.
        LineBattle twice = Scene.hitInTurnFive(90);
        twice.rally(1);
        twice.rally(1);
        Check.due("not by being rallied", 1, () -> twice.routedTurns(1));
        twice.turn();
        Check.due("not by standing", 1, () -> twice.routedTurns(1));
        Scene.turns(twice, 2);
        Scene.due(twice, 1, "7 19 1 !");
        Check.due("of both routs", 2, () -> twice.routedTurns(1));
        Doc.says(16, "Returns the number of turns.");
        Check.due("never routed", 0, () -> Scene.fall().routedTurns(0));
        Check.due("fallen at once", 0, () -> Scene.fall().routedTurns(1));
    }

    private static void strengths() {
        Doc.says(18, "Returns the attack of a line, without charging and without support.");
        LineBattle b = Scene.battle("0 0 s 9 h", "0 2 s 9 h", "0 1 p 40 c");
        Check.due("charging and supported", 10, () -> b.attackOf(2));
        Check.due("support", 2, () -> b.supportOf(2));
        b.turn();
        Check.due("after it has charged", 10, () -> b.attackOf(2));
        Doc.says(18, "Returns the attack.");
        Check.due("the greatest", 33, () -> Scene.battle("0 0 c 99 h").attackOf(0));
        Check.due("the least", 0, () -> Scene.battle("0 0 c 2 h").attackOf(0));
        Check.due("routed", 10, () -> Scene.rout().attackOf(0));
        Check.due("fallen", 1, () -> Scene.fall().attackOf(1));
        Doc.says(19, "Returns the counter of a line.");
        Check.due("supported", 5, () -> b.counterOf(2));
        Check.due("routed", 10, () -> Scene.rout().counterOf(0));
        Doc.says(19, "Returns the counter.");
        Check.due("the greatest", 24, () -> Scene.battle("0 0 n 99 h").counterOf(0));
        Check.due("the least", 0, () -> Scene.battle("0 0 c 9 h").counterOf(0));
        Check.due("fallen", 0, () -> Scene.fall().counterOf(1));
    }

    private static void support() {
        LineBattle b = Scene.battle("1 0 p 9 h", "1 1 p 9 h", "0 1 p 9 h", "1 2 p 9 a");
        Doc.says(20, "Returns the number of lines that support a line, found by looking at the cells of the "
            + "neighbouring lanes.");
        Check.due("by two", 2, () -> b.supportOf(1));
        Check.due("at the border", 1, () -> b.supportOf(3));
        Doc.says(20, "Returns the number of lines, 0 to 2.");
        Check.due("0", 0, () -> b.supportOf(2));
        Check.due("1", 1, () -> b.supportOf(0));
        Check.due("2", 2, () -> b.supportOf(1));
        unfallen(20, "Throws NoSuchElementException if it has fallen", LineBattle::supportOf);
        Doc.says(21, "Returns the same as supportOf, found by looking at all lines.");
        Check.due("by two", 2, () -> b.supportByLines(1));
        Check.due("at the border", 1, () -> b.supportByLines(3));
        Doc.says(21, "Returns the number of lines.");
        Check.due("0", 0, () -> b.supportByLines(2));
        Check.due("1", 1, () -> b.supportByLines(0));
        Check.due("2", 2, () -> b.supportByLines(1));
        unfallen(21, "Throws NoSuchElementException if it has fallen", LineBattle::supportByLines);
    }

    private static void enemies() {
        Doc.says(22, "Returns the first enemy in the lane of a line that is forward of it, found by going from "
            + "cell to cell.");
        enemies(LineBattle::enemyAhead);
        Doc.says(22, "Returns the number of the enemy.");
        farEnemies(LineBattle::enemyAhead);
        unfallen(22, "Throws NoSuchElementException if it has fallen, or there is no such enemy",
            LineBattle::enemyAhead);
        noEnemies(LineBattle::enemyAhead);
        Doc.says(23, "Returns the same as enemyAhead, found by comparing the distances of all lines.");
        enemies(LineBattle::enemyByDistances);
        Doc.says(23, "Returns the number of the enemy.");
        farEnemies(LineBattle::enemyByDistances);
        unfallen(23, "Throws NoSuchElementException if it has fallen, or there is no such enemy",
            LineBattle::enemyByDistances);
        noEnemies(LineBattle::enemyByDistances);
    }

    private static void enemies(LineCall call) {
        LineBattle b = Scene.turns(Scene.battle("1 0 s 9 a", "0 0 s 9 a", "1 1 s 9 h"), 2);
        Scene.add(b, "1 0 s 9 h");
        Scene.add(b, "0 0 s 9 h");
        Check.due("the first of two", 0, () -> call.of(b, 1));
        Check.due("the first of two, behind its own line", 0, () -> call.of(b, 4));
        Check.due("the first of two for side 1", 1, () -> call.of(b, 0));
        Check.due("the first of two for side 1, behind its own line", 1, () -> call.of(b, 3));
        Check.due("a routed one", 1, () -> call.of(Scene.rout(), 0));
        Check.due("for a routed one", 0, () -> call.of(Scene.rout(), 1));
        LineBattle queue = Scene.turns(Scene.battle("0 1 c 99 c", "1 1 s 5 a"), 2);
        Scene.add(queue, "1 1 s 9 h");
        Check.due("the next", 1, () -> call.of(queue, 0));
        queue.turn();
        Check.due("the one behind a fallen one", 2, () -> call.of(queue, 0));
    }

    private static void farEnemies(LineCall call) {
        LineBattle far = Scene.battle("0 2 s 9 h", "1 2 s 9 h");
        Check.due("nine cells away", 1, () -> call.of(far, 0));
        Check.due("nine cells away, side 1", 0, () -> call.of(far, 1));
        LineBattle near = Scene.turns(Scene.battle("0 2 s 9 a", "1 2 s 9 h"), 8);
        Check.due("in the next cell", 1, () -> call.of(near, 0));
        Check.due("in the next cell, side 1", 0, () -> call.of(near, 1));
    }

    private static void noEnemies(LineCall call) {
        Scene.refused("alone", Scene.NO_ELEMENT, () -> Scene.battle("0 0 p 9 h"), b -> call.of(b, 0));
        Scene.refused("only in other lanes", Scene.NO_ELEMENT,
            () -> Scene.battle("0 1 p 9 h", "1 0 p 9 h", "1 2 p 9 h"), b -> call.of(b, 0));
        Scene.refused("only lines of its own side", Scene.NO_ELEMENT, Scene::twelve, b -> call.of(b, 9));
        Scene.refused("a fallen one", Scene.NO_ELEMENT, Scene::fall, b -> call.of(b, 0));
        LineBattle ends = Scene.turns(Scene.battle("0 0 p 9 c", "1 1 p 9 c", "1 2 p 9 h", "0 1 p 9 h"), 5);
        Check.thrown("at the end of lane 0", Scene.NO_ELEMENT, () -> call.of(ends, 0));
        LineBattle border = Scene.turns(Scene.battle("0 0 p 9 c", "1 1 p 9 c"), 5);
        Check.thrown("over the border", Scene.NO_ELEMENT, () -> call.of(border, 0));
        Check.thrown("over the border, side 1", Scene.NO_ELEMENT, () -> call.of(border, 1));
    }
}
