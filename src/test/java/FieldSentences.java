/** The terms from the field to the support, sentence by sentence. */
final class FieldSentences {
    private static final String TERMS = "Terms";
    private static final String KINDS = "pncs";

    private FieldSentences() {
    }

    static void check() {
        whatItIs();
        field();
        cells();
        lines();
        conditions();
        kinds();
        support();
    }

    private static void whatItIs() {
        Doc.says("What it is", "An object is used for at most 512 calls after it has been made");
        LineBattle b = Scene.battle("0 0 p 40 h");
        Scene.turns(b, 510);
        Check.due("the 512th call", 510, b::turnCount);
        Doc.says(TERMS, "The class finds enemies and sums of strength in two ways each, predicts when the next fight "
            + "comes, executes command texts, and supports undo and snapshots.");
        LineBattle c = Scene.battle("0 0 p 40 a", "1 0 s 99 h");
        Check.due("enemy", 1, () -> c.enemyAhead(0));
        Check.due("enemy in the other way", 1, () -> c.enemyByDistances(0));
        Check.due("strength", 99, () -> c.strengthOfSide(1));
        Check.due("strength in the other way", 99, () -> c.strengthByCells(1));
        Check.due("next fight", 9, c::turnsUntilFight);
        Check.due("text", 1, () -> Scene.run(c, "turn"));
        Check.due("undo", 3, c::undo);
        Check.due("save", 2, c::save);
        Check.due("restore", 2, c::restore);
        Doc.says(TERMS, "A routed line does not charge.");
        LineBattle charger = Scene.turns(Scene.battle("0 0 p 40 c", "1 0 n 99 h"), 4);
        Scene.due(charger, 0, "8 20 4 !");
        Check.due("no fight of the routed", 0, charger::turn);
        Scene.due(charger, 0, "7 20 5 !");
        Scene.turns(charger, 3);
        Scene.due(charger, 0, "4 20 8 h");
        charger.turn();
        Scene.due(charger, 0, "4 20 9 h");
        Check.due("fights", 1, charger::fightCount);
    }

    private static void field() {
        Doc.says(TERMS, "Field. The field has the lanes 0 to 2 and the columns 0 to 9.");
        LineBattle empty = new LineBattle();
        for (int lane = -1; lane <= 3; lane++) {
            for (int column = -1; column <= 10; column++) {
                int l = lane;
                int c = column;
                boolean inside = l >= 0 && l <= 2 && c >= 0 && c <= 9;
                Check.thrown("cell " + l + ", " + c, inside ? Scene.NO_ELEMENT : Scene.BOUNDS,
                    () -> empty.lineIn(l, c));
            }
        }
        Doc.says(TERMS, "The sides are 0 and 1.");
        Check.due("jars of 0", 3, () -> empty.jarsOf(0));
        Check.due("jars of 1", 3, () -> empty.jarsOf(1));
        Check.thrown("jars of -1", Scene.ARGUMENT, () -> empty.jarsOf(-1));
        Check.thrown("jars of 2", Scene.ARGUMENT, () -> empty.jarsOf(2));
        Doc.says(TERMS, "Forward means towards greater columns for side 0 and towards smaller columns for side 1");
        LineBattle b = Scene.turns(Scene.battle("0 0 p 9 a", "1 1 p 9 a"), 1);
        Check.due("side 0", 1, () -> b.columnOf(0));
        Check.due("side 1", 8, () -> b.columnOf(1));
        Scene.turns(b, 8);
        Check.due("the last of side 0", 9, () -> b.columnOf(0));
        Check.due("the last of side 1", 0, () -> b.columnOf(1));
        Doc.says(TERMS, "the first column of a side is 0 for side 0 and 9 for side 1.");
        for (int lane = 0; lane < 3; lane++) {
            LineBattle c = Scene.battle("0 " + lane + " p 9 h", "1 " + lane + " p 9 h");
            int l = lane;
            Check.due("side 0 in lane " + l, 0, () -> c.lineIn(l, 0));
            Check.due("side 1 in lane " + l, 1, () -> c.lineIn(l, 9));
        }
    }

    private static void cells() {
        Doc.says(TERMS, "There is at most one line in a cell.");
        LineBattle queue = Scene.turns(Scene.battle("0 0 p 9 a"), 1);
        Scene.add(queue, "0 0 n 9 c");
        Check.thrown("added into a line", Scene.UNSUPPORTED, () -> queue.addLine(0, 0, 's', 9));
        queue.setOrder(0, 'h');
        queue.turn();
        Check.due("behind its own line", "np........", () -> Scene.lane(queue, 0));
        LineBattle enemies = Scene.turns(Scene.battle("0 0 s 99 c", "1 0 s 99 h"), 4);
        Check.due("before its enemy", "........sS", () -> Scene.lane(enemies, 0));
        LineBattle routed = Scene.turns(Scene.meeting(), 1);
        Scene.add(routed, "0 0 s 20 a");
        Scene.turns(routed, 4);
        routed.setOrder(2, 'h');
        routed.turn();
        Check.due("routed, before its own line", "...sn!.C!...", () -> Scene.lane(routed, 0));
    }

    private static void lines() {
        Doc.says(TERMS, "Lines. At most 12 lines are added; they are numbered from 0 in the order in which they were "
            + "added, and their numbers never change.");
        LineBattle twelve = Scene.twelve();
        Check.due("lines", 12, twelve::lineCount);
        Check.thrown("a thirteenth", Scene.STATE, () -> twelve.addLine(0, 0, 's', 9));
        for (int i = 0; i < 12; i++) {
            int number = i;
            Check.due("line " + number, number, () -> twelve.lineIn(number % 3, 4 - number / 3));
            Check.due("strength of " + number, number + 1, () -> twelve.strengthOf(number));
        }
        LineBattle fallen = Scene.fall();
        for (int i = 0; i < 2; i++) {
            for (String line : new String[] {"0 0 p 9 a", "0 2 p 9 a", "1 0 p 9 a", "1 2 p 9 a", "0 1 p 9 a"}) {
                Scene.add(fallen, line);
            }
            fallen.turn();
        }
        Check.due("twelve, with a fallen one", 12, fallen::lineCount);
        Check.thrown("a thirteenth, with a fallen one", Scene.STATE, () -> fallen.addLine(0, 1, 's', 9));
        Check.due("the fallen one keeps its number", 's', () -> fallen.kindOf(1));
        Check.due("the last one", 11, () -> fallen.lineIn(1, 1));
        Doc.says(TERMS, "A line has a side, a lane, a column, a kind, a strength, a morale from 0 to 20, and an "
            + "order.");
        LineBattle b = Scene.turns(Scene.battle("0 2 p 9 h"), 9);
        Scene.due(b, 0, "0 9 19 h");
        b.turn();
        Scene.due(b, 0, "0 9 20 h");
        b.turn();
        Scene.due(b, 0, "0 9 20 h");
        Check.due("side", 0, () -> b.sideOf(0));
        Check.due("lane", 2, () -> b.laneOf(0));
        Check.due("kind", 'p', () -> b.kindOf(0));
        // In turn 5 the clove suffers 17 and 5; the counter is 82 / 8 and 3; then 82 / 3 = 27 and 9 against 8 or less.
        LineBattle low = Scene.turns(Scene.battle("1 0 s 99 a", "0 0 c 99 a"), 5);
        Scene.due(low, 0, "5 64 0 !");
    }

    private static void conditions() {
        Doc.says(TERMS, "It stands, or it is routed, or it has fallen.");
        LineBattle rich = Scene.rich();
        boolean[] stand = {true, false, true, false, true};
        for (int i = 0; i < 5; i++) {
            int line = i;
            Check.due("stands " + line, stand[line], () -> rich.isStanding(line));
            Check.due("routed " + line, line == 1, () -> rich.isRouted(line));
            String lane = Check.outcome(() -> rich.laneOf(line));
            Check.due("fallen " + line, line == 3, () -> lane.startsWith("throws"));
        }
        Doc.says(TERMS, "A new line stands in the first column of its side, with morale 10 and the order h.");
        LineBattle b = Scene.battle("0 0 p 1 h", "1 2 n 99 h");
        Scene.due(b, 0, "0 1 10 h");
        Scene.due(b, 1, "9 99 10 h");
        b.setOrder(1, 'c');
        b.undo();
        b.undo();
        Scene.add(b, "1 1 s 7 h");
        Scene.due(b, 1, "9 7 10 h");
        LineBattle again = new LineBattle();
        again.save();
        Scene.add(again, "0 0 c 99 c");
        Scene.add(again, "1 0 s 99 h");
        Scene.turns(again, 5);
        Scene.due(again, 1, "9 37 1 !");
        again.restore();
        Scene.add(again, "1 1 n 3 h");
        Scene.add(again, "0 2 n 4 h");
        Scene.due(again, 0, "9 3 10 h");
        Scene.due(again, 1, "0 4 10 h");
        Check.due("never routed", 0, () -> again.routedTurns(1));
        Doc.says(TERMS, "A line that has fallen has strength 0 and is in no cell.");
        fallenAreNowhere(Scene.fall(), 1, 9);
        fallenAreNowhere(Scene.attackerFalls(), 0, 8);
    }

    private static void fallenAreNowhere(LineBattle b, int line, int column) {
        Check.due("strength", 0, () -> b.strengthOf(line));
        Check.thrown("lane", Scene.NO_ELEMENT, () -> b.laneOf(line));
        Check.thrown("column", Scene.NO_ELEMENT, () -> b.columnOf(line));
        Check.thrown("cell", Scene.NO_ELEMENT, () -> b.lineIn(1, column));
    }

    private static int attack(char kind, int s) {
        return kind == 'p' ? s / 4 : kind == 'n' ? s / 5 + 2 : kind == 'c' ? s / 3 : s / 6 + 1;
    }

    private static int counter(char kind, int s) {
        return kind == 'p' ? s / 8 : kind == 'n' ? s / 4 : kind == 'c' ? s / 10 : s / 6;
    }

    private static void kinds() {
        Doc.says(TERMS, "Kinds. The attack of a line with strength s is s / 4 for p (pepper), and 6 more if it "
            + "charges; s / 5 + 2 for n (nutmeg); s / 3 for c (clove); and s / 6 + 1 for s (salt).");
        eachKindAndStrength(true);
        int[] damages = {16, 10, 13, 7};
        for (int k = 0; k < 4; k++) {
            char kind = KINDS.charAt(k);
            LineBattle b = Scene.turns(Scene.battle("0 0 " + kind + " 40 c", "1 0 s 99 h"), 4);
            int left = 99 - damages[k];
            Check.due("charging " + kind, left, () -> b.strengthOf(1));
            LineBattle second = Scene.turns(Scene.battle("1 2 " + kind + " 40 c", "0 2 s 99 h"), 4);
            Check.due("charging " + kind + " of side 1", left, () -> second.strengthOf(1));
        }
        Doc.says(TERMS, "Its counter is s / 8 for p, s / 4 for n, s / 10 for c and s / 6 for s.");
        eachKindAndStrength(false);
        Doc.says(TERMS, "All divisions are rounded down.");
        String[] below = {"p 3 0 0", "p 4 1 0", "p 7 1 0", "p 8 2 1", "n 3 2 0", "n 4 2 1", "n 5 3 1", "n 9 3 2",
            "c 2 0 0", "c 3 1 0", "c 9 3 0", "c 10 3 1", "s 5 1 0", "s 6 2 1", "s 11 2 1", "s 12 3 2"};
        for (String line : below) {
            String[] p = line.split(" ");
            LineBattle b = Scene.battle("1 2 " + p[0] + " " + p[1] + " h");
            Check.due("attack of " + line, p[2], () -> b.attackOf(0));
            Check.due("counter of " + line, p[3], () -> b.counterOf(0));
        }
    }

    private static void eachKindAndStrength(boolean attacks) {
        for (char kind : KINDS.toCharArray()) {
            for (int strength = 1; strength <= 99; strength++) {
                LineBattle b = Scene.battle("0 0 " + kind + " " + strength + " h");
                int want = attacks ? attack(kind, strength) : counter(kind, strength);
                Check.due(kind + " " + strength, want, () -> attacks ? b.attackOf(0) : b.counterOf(0));
            }
            LineBattle fallen = Scene.turns(Scene.battle("0 1 c 99 c", "1 1 " + kind + " 5 h"), 4);
            int want = attacks ? attack(kind, 0) : counter(kind, 0);
            Check.due(kind + " fallen", want, () -> attacks ? fallen.attackOf(1) : fallen.counterOf(1));
        }
    }

    private static void support() {
        Doc.says(TERMS, "Support. A line is supported by each line of its side that stands in the same column in a "
            + "neighbouring lane.");
        for (int side = 0; side < 2; side++) {
            String s = String.valueOf(side);
            LineBattle b = Scene.battle(s + " 1 p 9 h");
            dueSupport("alone", b, 0, 0);
            Scene.add(b, s + " 0 p 9 h");
            dueSupport("by one", b, 0, 1);
            Scene.add(b, s + " 2 p 9 h");
            dueSupport("by two", b, 0, 2);
            b.setOrder(2, 'a');
            b.turn();
            dueSupport("without the one gone on", b, 0, 1);
            dueSupport("gone on", b, 2, 0);
        }
        LineBattle enemies = Scene.turns(Scene.battle("0 0 p 9 c"), 5);
        Scene.add(enemies, "1 1 p 9 h");
        dueSupport("by an enemy", enemies, 0, 0);
        dueSupport("by an enemy", enemies, 1, 0);
        LineBattle routed = Scene.turns(Scene.battle("0 0 n 60 a", "1 0 c 60 a", "0 1 s 9 a"), 3);
        routed.setOrder(2, 'h');
        Scene.turns(routed, 3);
        Check.due("the routed", "...n!..C!...", () -> Scene.lane(routed, 0));
        Check.due("beside the routed", "...s......", () -> Scene.lane(routed, 1));
        dueSupport("by a routed line", routed, 2, 0);
        dueSupport("a routed line is supported", routed, 0, 1);
        LineBattle fallen = Scene.fall();
        Scene.add(fallen, "1 0 p 9 h");
        Scene.add(fallen, "1 2 p 9 h");
        dueSupport("by a fallen line", fallen, 2, 0);
        dueSupport("by a fallen line", fallen, 3, 0);
        Doc.says(TERMS, "Lanes are neighbours if their numbers differ by 1.");
        LineBattle lanes = Scene.battle("0 0 p 9 h", "0 2 p 9 h");
        dueSupport("lane 0 by lane 2", lanes, 0, 0);
        dueSupport("lane 2 by lane 0", lanes, 1, 0);
        Scene.add(lanes, "0 1 p 9 h");
        dueSupport("lane 0 by lane 1", lanes, 0, 1);
        dueSupport("lane 2 by lane 1", lanes, 1, 1);
        dueSupport("lane 1 by both", lanes, 2, 2);
        LineBattle queue = Scene.turns(Scene.battle("0 0 p 9 a"), 1);
        Scene.add(queue, "0 0 p 9 h");
        dueSupport("not in the same lane", queue, 0, 0);
    }

    private static void dueSupport(String what, LineBattle b, int line, int want) {
        Check.due(what + ": " + line, want, () -> b.supportOf(line));
        Check.due(what + ": " + line + " in the other way", want, () -> b.supportByLines(line));
    }
}
