import java.util.function.Supplier;

/** The promises 1 to 5 and 17 to 38, sentence by sentence; those of a single line are told in LineSentences. */
final class CallSentences {
    private static final int[] EXTREMES = {-1, Integer.MIN_VALUE, Integer.MAX_VALUE};

    private CallSentences() {
    }

    static void check() {
        newObject();
        addLine();
        addLineRefused();
        setOrder();
        rally();
        turn();
        lineIn();
        fightCount();
        turnsUntilFight();
        sides();
        frontOf();
        leader();
        lineByStrength();
        turnCount();
        writeLane();
        writtenAt();
        meanMorale();
        standingShare();
        isConsistent();
    }

    private static void newObject() {
        Doc.says(1, "Creates an empty field with 3 jars for each side, at turn 0.");
        LineBattle b = new LineBattle();
        for (int lane = 0; lane < 3; lane++) {
            int l = lane;
            Check.due("lane " + l, "..........", () -> Scene.lane(b, l));
        }
        Check.due("state", "turn 0 fights 0 jars 33", () -> Scene.state(b));
        Check.due("lines", 0, b::lineCount);
        LineBattle second = Scene.rich();
        Check.due("another object is another battle", 0, () -> new LineBattle().lineCount() + second.turnCount() - 7);
    }

    private static void addLine() {
        Doc.says(2, "Adds a line.");
        LineBattle b = new LineBattle();
        b.addLine(1, 2, 'n', 34);
        Check.due("state", "turn 0 fights 0 jars 33 / 1n 9 34 10 h 0", () -> Scene.state(b));
        Check.due("lane", 2, () -> b.laneOf(0));
        Doc.says(2, "side: its side, 0 or 1");
        for (int side = -2; side <= 3; side++) {
            int s = side;
            Check.due("side " + s, s == 0 || s == 1 ? 0 : "throws.IllegalArgumentException",
                () -> new LineBattle().addLine(s, 0, 'p', 9));
        }
        Doc.says(2, "lane: its lane, 0 to 2");
        for (int lane = -2; lane <= 4; lane++) {
            int l = lane;
            Check.due("lane " + l, l >= 0 && l <= 2 ? 0 : "throws.IllegalArgumentException",
                () -> new LineBattle().addLine(1, l, 'p', 9));
        }
        Doc.says(2, "kind: its kind: p, n, c or s");
        for (int kind = 0; kind <= 300; kind++) {
            char k = (char) kind;
            boolean right = k == 'p' || k == 'n' || k == 'c' || k == 's';
            Check.due("kind " + kind, right ? 0 : "throws.IllegalArgumentException",
                () -> new LineBattle().addLine(0, 0, k, 9));
        }
        Doc.says(2, "strength: its strength, 1 to 99");
        for (int strength = -3; strength <= 260; strength++) {
            int s = strength;
            Check.due("strength " + s, s >= 1 && s <= 99 ? s : "throws.IllegalArgumentException", () -> {
                LineBattle c = new LineBattle();
                c.addLine(0, 0, 'p', s);
                return c.strengthOf(0);
            });
        }
        Doc.says(2, "Returns the number of the line.");
        LineBattle twelve = new LineBattle();
        for (int i = 0; i < 12; i++) {
            int number = i;
            Check.due("number", number, () -> twelve.addLine(number % 2, number / 2 % 3, 's', 9));
            twelve.setOrder(number, 'a');
            if (number % 6 == 5) {
                twelve.turn();
            }
        }
    }

    private static void addLineRefused() {
        Doc.says(2, "Throws IllegalArgumentException if a parameter is out of range");
        for (int wrong : EXTREMES) {
            Scene.refused("side " + wrong, Scene.ARGUMENT, Scene::rich, b -> b.addLine(wrong, 0, 'p', 9));
            Scene.refused("lane " + wrong, Scene.ARGUMENT, Scene::rich, b -> b.addLine(0, wrong, 'p', 9));
            Scene.refused("strength " + wrong, Scene.ARGUMENT, Scene::rich, b -> b.addLine(0, 0, 'p', wrong));
        }
        Scene.refused("side 2", Scene.ARGUMENT, Scene::rich, b -> b.addLine(2, 0, 'p', 9));
        Scene.refused("lane 3", Scene.ARGUMENT, Scene::rich, b -> b.addLine(0, 3, 'p', 9));
        Scene.refused("strength 0", Scene.ARGUMENT, Scene::rich, b -> b.addLine(0, 0, 'p', 0));
        Scene.refused("strength 100", Scene.ARGUMENT, Scene::rich, b -> b.addLine(0, 0, 'p', 100));
        for (char wrong : new char[] {0, 'P', 'N', 'C', 'S', 'h', 'a', 'o', 'q', 65535, 'p' + 256}) {
            Scene.refused("kind " + (int) wrong, Scene.ARGUMENT, Scene::rich, b -> b.addLine(0, 0, wrong, 9));
        }
        Doc.says(2, "Throws IllegalStateException if there were 12 lines already");
        Scene.refused("a thirteenth", Scene.STATE, Scene::twelve, b -> b.addLine(0, 0, 'p', 9));
        Scene.refused("a thirteenth, of side 1", Scene.STATE, Scene::twelve, b -> b.addLine(1, 2, 'p', 9));
        LineBattle eleven = Scene.twelve();
        eleven.undo();
        eleven.undo();
        eleven.undo();
        Check.due("a twelfth", 11, () -> eleven.addLine(1, 0, 'p', 9));
        Check.thrown("a thirteenth then", Scene.STATE, () -> eleven.addLine(1, 1, 'p', 9));
        Doc.says(2, "Throws UnsupportedOperationException if there is a line in the first column of this side in "
            + "this lane");
        for (int lane = 0; lane < 3; lane++) {
            for (int side = 0; side < 2; side++) {
                int l = lane;
                int s = side;
                Supplier<LineBattle> own = () -> Scene.battle(s + " " + l + " p 9 h");
                Scene.refused("its own", Scene.UNSUPPORTED, own, b -> b.addLine(s, l, 'n', 9));
                Supplier<LineBattle> other = () -> Scene.turns(Scene.battle(1 - s + " " + l + " p 9 c"), 5);
                Scene.refused("of the other side", Scene.UNSUPPORTED, other, b -> b.addLine(s, l, 'n', 9));
                Check.due("in the first column of the other side", 1, () -> own.get().addLine(1 - s, l, 'n', 9));
                Check.due("in another lane", 1, () -> own.get().addLine(s, (l + 1) % 3, 'n', 9));
                Check.due("gone on", 1, () -> other.get().addLine(1 - s, l, 'n', 9));
            }
        }
        Supplier<LineBattle> routed = () -> Scene.turns(Scene.rout(), 4);
        Scene.refused("of a routed line", Scene.UNSUPPORTED, routed, b -> b.addLine(1, 0, 'n', 9));
        Check.due("where a line has fallen", 2, () -> Scene.fall().addLine(1, 1, 'n', 9));
    }

    private static void setOrder() {
        Doc.says(3, "Gives a line another order.");
        LineBattle b = Scene.battle("0 0 p 9 h", "1 2 p 9 h");
        b.setOrder(1, 'a');
        Check.due("order", 'a', () -> b.orderOf(1));
        Check.due("order of the other", 'h', () -> b.orderOf(0));
        Doc.says(3, "order: the new order: h, a or c");
        for (int order = 0; order <= 300; order++) {
            char o = (char) order;
            boolean right = o == 'h' || o == 'a' || o == 'c';
            LineBattle c = Scene.battle("0 0 p 9 h");
            Check.due("order " + order, right ? o : "throws.IllegalArgumentException", () -> {
                c.setOrder(0, o);
                return c.orderOf(0);
            });
        }
        Doc.says(3, "Returns the previous order.");
        String orders = "hhaacchchah";
        for (int i = 1; i < orders.length(); i++) {
            char previous = orders.charAt(i - 1);
            char order = orders.charAt(i);
            Check.due(previous + " before " + order, previous, () -> b.setOrder(0, order));
        }
        Doc.says(3, "Throws IllegalArgumentException if there is no such order");
        for (char wrong : new char[] {0, 'H', 'A', 'C', 'b', 'g', 'i', 'p', 'n', 's', ' ', 65535, 'h' + 256}) {
            Scene.refused("order " + (int) wrong, Scene.ARGUMENT, Scene::rich, x -> x.setOrder(4, wrong));
        }
        Doc.says(3, "Throws IllegalStateException if the line does not stand");
        for (char order : new char[] {'h', 'a', 'c'}) {
            Scene.refused("routed, " + order, Scene.STATE, Scene::rich, x -> x.setOrder(1, order));
            Scene.refused("fallen, " + order, Scene.STATE, Scene::rich, x -> x.setOrder(3, order));
            LineBattle again = Scene.rout();
            again.rally(0);
            Check.due("rallied, " + order, 'h', () -> again.setOrder(0, order));
        }
    }

    private static void rally() {
        Doc.says(4, "Rallies a routed line.");
        LineBattle b = Scene.rout();
        b.rally(0);
        Scene.due(b, 0, "4 41 10 h");
        Scene.due(b, 1, "5 36 3 !");
        Doc.says(4, "Returns its morale afterwards.");
        Check.due("3 and 6", 9, () -> b.rally(1));
        LineBattle one = Scene.hitInTurnFive(90);
        Check.due("1 and 6, still routed", 7, () -> one.rally(1));
        Check.due("7 and 6", 13, () -> one.rally(1));
        Doc.says(4, "Throws IllegalStateException if the line is not routed");
        Scene.refused("stands", Scene.STATE, Scene::rich, x -> x.rally(0));
        Scene.refused("fallen", Scene.STATE, Scene::rich, x -> x.rally(3));
        Check.thrown("rallied already", Scene.STATE, () -> b.rally(0));
        Check.thrown("stands again by itself", Scene.STATE, () -> Scene.turns(Scene.rout(), 4).rally(0));
        Doc.says(4, "Throws UnsupportedOperationException if its side has no jar");
        Scene.refused("no jar", Scene.UNSUPPORTED, Scene::noJar, x -> x.rally(3));
        LineBattle last = Scene.noJar();
        Check.due("no jar", 0, () -> last.jarsOf(1));
        Check.due("jars of the other side", 3, () -> last.jarsOf(0));
        last.undo();
        Check.due("one jar", 1, () -> last.jarsOf(1));
        Check.due("the last jar", 7, () -> last.rally(3));
        Check.thrown("no more", Scene.UNSUPPORTED, () -> last.rally(3));
    }

    private static void turn() {
        Doc.says(5, "Lets a turn pass.");
        LineBattle b = Scene.battle("0 0 p 9 a", "1 1 p 9 h");
        b.turn();
        Check.due("state", "turn 1 fights 0 jars 33 / 0p 1 9 10 a 0 / 1p 9 9 11 h 0", () -> Scene.state(b));
        Doc.says(5, "Returns the number of fights in it.");
        Check.due("without lines", 0, () -> new LineBattle().turn());
        LineBattle meeting = Scene.turns(Scene.meeting(), 4);
        Check.due("two", 2, meeting::turn);
        Check.due("none after them", 0, meeting::turn);
        LineBattle six = Scene.battle("0 0 p 20 a", "0 1 p 20 a", "0 2 p 20 a", "1 0 p 20 a", "1 1 p 20 a",
            "1 2 p 20 a");
        Scene.turns(six, 4);
        Check.due("in three lanes", 6, six::turn);
        LineBattle one = Scene.turns(Scene.battle("0 0 s 99 a", "1 0 s 99 h"), 8);
        Check.due("one", 1, one::turn);
        Check.due("one again", 1, one::turn);
    }

    private static void lineIn() {
        Doc.says(17, "Returns the line in a cell.");
        LineBattle b = Scene.rich();
        Check.due("stands", 0, () -> b.lineIn(0, 5));
        Check.due("routed", 1, () -> b.lineIn(0, 7));
        Doc.says(17, "lane: the lane, 0 to 2");
        for (int wrong : new int[] {-1, 3, Integer.MIN_VALUE, Integer.MAX_VALUE}) {
            Scene.refused("lane " + wrong, Scene.BOUNDS, Scene::rich, x -> x.lineIn(wrong, 0));
        }
        Doc.says(17, "column: the column, 0 to 9");
        for (int wrong : new int[] {-1, 10, Integer.MIN_VALUE, Integer.MAX_VALUE}) {
            Scene.refused("column " + wrong, Scene.BOUNDS, Scene::rich, x -> x.lineIn(1, wrong));
        }
        Doc.says(17, "Returns the number of the line.");
        LineBattle corners = Scene.battle("1 2 p 9 h", "0 2 p 9 h", "1 0 p 9 h", "0 0 p 9 h");
        Check.due("first cell", 3, () -> corners.lineIn(0, 0));
        Check.due("end of lane 0", 2, () -> corners.lineIn(0, 9));
        Check.due("begin of lane 2", 1, () -> corners.lineIn(2, 0));
        Check.due("last cell", 0, () -> corners.lineIn(2, 9));
        Doc.says(17, "Throws IndexOutOfBoundsException if there is no such cell");
        Check.thrown("begin of the next lane", Scene.BOUNDS, () -> corners.lineIn(1, 10));
        Check.thrown("end of the lane before", Scene.BOUNDS, () -> corners.lineIn(1, -1));
        Check.thrown("no lane, but the cell of its number", Scene.BOUNDS, () -> corners.lineIn(3, -10));
        Doc.says(17, "Throws NoSuchElementException if there is no line in it");
        Scene.refused("empty", Scene.NO_ELEMENT, Scene::rich, x -> x.lineIn(2, 1));
        Scene.refused("left", Scene.NO_ELEMENT, Scene::rich, x -> x.lineIn(0, 4));
        Scene.refused("of the fallen", Scene.NO_ELEMENT, Scene::fall, x -> x.lineIn(1, 9));
        Scene.refused("of the attacker that fell", Scene.NO_ELEMENT, Scene::attackerFalls, x -> x.lineIn(1, 8));
    }

    private static void fightCount() {
        Doc.says(24, "Returns the number of fights so far.");
        LineBattle b = Scene.meeting();
        Check.due("none", 0, b::fightCount);
        Scene.turns(b, 4);
        Check.due("none yet", 0, b::fightCount);
        b.turn();
        Check.due("two", 2, b::fightCount);
        Scene.turns(b, 3);
        Check.due("still two", 2, b::fightCount);
        Doc.says(24, "Returns the number of fights.");
        LineBattle c = Scene.turns(Scene.battle("0 0 s 99 a", "1 0 s 99 h"), 8);
        for (int fights = 1; fights <= 2; fights++) {
            int want = fights;
            c.turn();
            Check.due("fights", want, c::fightCount);
        }
        c.undo();
        Check.due("fights undone", 1, c::fightCount);
    }

    private static void turnsUntilFight() {
        Doc.says(25, "Returns after how many turns there will be the next fight if only turns pass.");
        LineBattle b = Scene.meeting();
        for (int left = 5; left >= 1; left--) {
            int want = left;
            Check.due("turns left", want, b::turnsUntilFight);
            Check.due("fights", left == 1 ? 2 : 0, b::turn);
        }
        LineBattle asked = Scene.rich();
        String before = Scene.whole(Scene.rich());
        asked.turnsUntilFight();
        Check.due("only asked", before, () -> Scene.whole(asked));
        LineBattle chased = Scene.turns(Scene.battle("0 0 c 99 a", "1 0 s 60 a"), 5);
        Check.due("the routed one is caught at the border", 5, chased::turnsUntilFight);
        LineBattle behind = Scene.turns(Scene.battle("0 0 s 9 a"), 1);
        behind.setOrder(0, 'h');
        Scene.add(behind, "0 0 p 40 c");
        Scene.add(behind, "1 0 s 9 a");
        Scene.add(behind, "1 1 s 9 c");
        Check.due("the one in front is met", 8, behind::turnsUntilFight);
        Doc.says(25, "Returns the number of turns, 1 to 20.");
        LineBattle near = Scene.turns(Scene.battle("0 0 s 99 a", "1 0 s 99 h"), 8);
        Check.due("the least", 1, near::turnsUntilFight);
        // It can't be more than 9: that is the way through the field; or the lines never meet.
        Check.due("the greatest", 9, () -> Scene.battle("0 0 s 99 a", "1 0 s 99 h").turnsUntilFight());
        Check.due("the greatest of side 1", 9, () -> Scene.battle("0 0 s 99 h", "1 0 s 99 a").turnsUntilFight());
        Check.due("charging", 4, () -> Scene.battle("0 0 s 99 c", "1 0 s 99 h").turnsUntilFight());
        Doc.says(25, "Throws NoSuchElementException if there will be none within 20 turns");
        Scene.refused("no line", Scene.NO_ELEMENT, LineBattle::new, LineBattle::turnsUntilFight);
        Scene.refused("both stand again and hold", Scene.NO_ELEMENT, Scene::rout, LineBattle::turnsUntilFight);
        Scene.refused("no enemy", Scene.NO_ELEMENT, Scene::twelve, LineBattle::turnsUntilFight);
        Scene.refused("both hold", Scene.NO_ELEMENT, () -> Scene.battle("0 0 p 9 h", "1 0 p 9 h"),
            LineBattle::turnsUntilFight);
        Scene.refused("in other lanes", Scene.NO_ELEMENT, () -> Scene.battle("0 0 p 9 c", "1 1 p 9 c"),
            LineBattle::turnsUntilFight);
    }

    private interface SideCall {
        int of(LineBattle b, int side);
    }

    private static void ofSide(int promise, SideCall call) {
        Doc.says(promise, "side: the side");
        Check.due("side 0", true, () -> call.of(Scene.rich(), 0) >= 0);
        Check.due("side 1", true, () -> call.of(Scene.rich(), 1) >= 0);
        Doc.says(promise, "Throws IllegalArgumentException if there is no such side");
        for (int wrong : new int[] {-1, 2, 3, Integer.MIN_VALUE, Integer.MAX_VALUE}) {
            Scene.refused("side " + wrong, Scene.ARGUMENT, Scene::rich, b -> call.of(b, wrong));
        }
    }

    private static void sides() {
        ofSide(26, LineBattle::jarsOf);
        ofSide(27, LineBattle::strengthOfSide);
        ofSide(28, LineBattle::strengthByCells);
        ofSide(29, LineBattle::fallenOf);
        Doc.says(26, "Returns the number of jars of a side.");
        Check.due("new", 3, () -> new LineBattle().jarsOf(1));
        Check.due("one used", 2, () -> Scene.rich().jarsOf(0));
        Check.due("not used by the other side", 3, () -> Scene.rich().jarsOf(1));
        Doc.says(26, "Returns the number of jars.");
        LineBattle b = Scene.noJar();
        for (int jars = 0; jars <= 3; jars++) {
            int want = jars;
            Check.due("jars", want, () -> b.jarsOf(1));
            Check.due("jars of the other side", 3, () -> b.jarsOf(0));
            b.undo();
        }
        Doc.says(27, "Returns the sum of the strengths of the lines of a side, added up line by line.");
        strengths(LineBattle::strengthOfSide);
        Doc.says(27, "Returns the sum.");
        Check.due("of twelve", 78, () -> Scene.twelve().strengthOfSide(0));
        Check.due("of none", 0, () -> Scene.twelve().strengthOfSide(1));
        Doc.says(28, "Returns the same as strengthOfSide, added up cell by cell.");
        strengths(LineBattle::strengthByCells);
        Doc.says(28, "Returns the sum.");
        Check.due("of twelve", 78, () -> Scene.twelve().strengthByCells(0));
        Check.due("of none", 0, () -> Scene.twelve().strengthByCells(1));
        Doc.says(29, "Returns the number of lines of a side that have fallen.");
        Check.due("routed", 0, () -> Scene.rout().fallenOf(0));
        Check.due("side 1", 1, () -> Scene.fall().fallenOf(1));
        Check.due("not side 0", 0, () -> Scene.fall().fallenOf(0));
        Check.due("side 0", 1, () -> Scene.attackerFalls().fallenOf(0));
        Check.due("not side 1", 0, () -> Scene.attackerFalls().fallenOf(1));
        Doc.says(29, "Returns the number of lines.");
        Check.due("none", 0, () -> new LineBattle().fallenOf(0));
        LineBattle two = Scene.battle("1 0 s 5 h", "1 2 s 5 h", "0 0 c 99 c", "0 2 c 99 c");
        Check.due("two", 2, () -> Scene.turns(two, 4).fallenOf(1));
    }

    private static void strengths(SideCall sum) {
        Check.due("new", 0, () -> sum.of(new LineBattle(), 0));
        Check.due("the routed count", 41, () -> sum.of(Scene.rout(), 0));
        Check.due("the routed of side 1 count", 36, () -> sum.of(Scene.rout(), 1));
        Check.due("side 0", 99, () -> sum.of(Scene.fall(), 0));
        Check.due("the fallen have none", 0, () -> sum.of(Scene.fall(), 1));
        LineBattle corners = Scene.battle("1 2 p 99 h", "0 2 p 4 h", "1 0 p 20 h", "0 0 p 1 h", "1 1 p 9 h",
            "0 1 p 2 h");
        Check.due("of three lanes", 7, () -> sum.of(corners, 0));
        Check.due("of three lanes, side 1", 128, () -> sum.of(corners, 1));
    }

    private static void frontOf() {
        Doc.says(30, "Returns the column of the line of a side in a lane that is farthest forward.");
        LineBattle b = Scene.turns(Scene.battle("0 1 s 9 a", "1 1 s 9 a"), 2);
        Scene.add(b, "0 1 s 9 h");
        Scene.add(b, "1 1 s 9 h");
        Check.due("side 0", 2, () -> b.frontOf(0, 1));
        Check.due("side 1", 7, () -> b.frontOf(1, 1));
        Check.due("routed", 7, () -> Scene.rich().frontOf(1, 0));
        Doc.says(30, "side: the side");
        Check.due("side 0 in lane 0", 5, () -> Scene.rich().frontOf(0, 0));
        Check.due("side 1 in lane 0", 7, () -> Scene.rich().frontOf(1, 0));
        Doc.says(30, "lane: the lane, 0 to 2");
        for (int lane = 0; lane < 3; lane++) {
            int l = lane;
            Check.due("lane " + l, l, () -> {
                LineBattle c = Scene.battle("0 " + l + " s 9 a");
                return Scene.turns(c, l).frontOf(0, l);
            });
        }
        Doc.says(30, "Returns the column.");
        LineBattle ends = Scene.battle("0 0 s 9 c", "1 2 s 9 c");
        Check.due("0", 0, () -> ends.frontOf(0, 0));
        Check.due("9 of side 1", 9, () -> ends.frontOf(1, 2));
        Scene.turns(ends, 5);
        Check.due("9", 9, () -> ends.frontOf(0, 0));
        Check.due("0 of side 1", 0, () -> ends.frontOf(1, 2));
        Doc.says(30, "Throws IllegalArgumentException if there is no such side or lane");
        for (int wrong : EXTREMES) {
            Scene.refused("side " + wrong, Scene.ARGUMENT, Scene::rich, x -> x.frontOf(wrong, 0));
            Scene.refused("lane " + wrong, Scene.ARGUMENT, Scene::rich, x -> x.frontOf(0, wrong));
        }
        Scene.refused("side 2", Scene.ARGUMENT, Scene::rich, x -> x.frontOf(2, 0));
        Scene.refused("lane 3", Scene.ARGUMENT, Scene::rich, x -> x.frontOf(0, 3));
        Doc.says(30, "Throws NoSuchElementException if the side has no line in this lane");
        Scene.refused("empty", Scene.NO_ELEMENT, LineBattle::new, x -> x.frontOf(0, 0));
        Scene.refused("only of the other side", Scene.NO_ELEMENT, Scene::rich, x -> x.frontOf(1, 2));
        Scene.refused("fallen", Scene.NO_ELEMENT, Scene::rich, x -> x.frontOf(1, 1));
    }

    private static void leader() {
        Doc.says(31, "Returns the side with the greater strength.");
        LineBattle b = Scene.battle("0 0 p 20 h", "1 0 p 10 h", "1 1 p 9 h");
        Check.due("20 to 19", 0, b::leader);
        Scene.add(b, "1 2 p 2 h");
        Check.due("20 to 21", 1, b::leader);
        Check.due("with a routed line", 0, () -> Scene.rout().leader());
        Doc.says(31, "Returns 0 or 1.");
        Check.due("0", 0, () -> Scene.battle("0 0 p 1 h").leader());
        Check.due("1", 1, () -> Scene.battle("1 0 p 1 h").leader());
        Doc.says(31, "Throws NoSuchElementException if both have the same");
        Scene.refused("no line", Scene.NO_ELEMENT, LineBattle::new, LineBattle::leader);
        Scene.refused("20 to 20", Scene.NO_ELEMENT, () -> Scene.battle("0 0 p 20 h", "1 0 p 11 h", "1 1 p 9 h"),
            LineBattle::leader);
    }

    private static void lineByStrength() {
        Doc.says(32, "Returns a line in the order of strengths, the greatest first; lines with equal strengths "
            + "are ordered by their numbers.");
        LineBattle b = Scene.battle("0 0 p 20 h", "1 0 n 50 h", "1 1 c 20 h", "0 1 s 99 h", "0 2 p 1 h", "1 2 p 50 h");
        int[] order = {3, 1, 5, 0, 2, 4};
        for (int rank = 0; rank < 6; rank++) {
            int r = rank;
            Check.due("rank " + r, order[r], () -> b.lineByStrength(r));
        }
        Check.due("a routed one", 1, () -> Scene.rich().lineByStrength(2));
        Check.due("a fallen one is the last", 3, () -> Scene.rich().lineByStrength(4));
        LineBattle fallen = Scene.battle("1 0 s 5 h", "1 2 s 5 h", "0 0 c 99 c", "0 2 c 99 c");
        Scene.turns(fallen, 4);
        Check.due("the first of two fallen", 0, () -> fallen.lineByStrength(2));
        Check.due("the second of two fallen", 1, () -> fallen.lineByStrength(3));
        Doc.says(32, "rank: the rank, from 0");
        Check.due("0", 11, () -> Scene.twelve().lineByStrength(0));
        Check.due("11", 0, () -> Scene.twelve().lineByStrength(11));
        Doc.says(32, "Returns the number of the line.");
        Check.due("of one", 0, () -> Scene.battle("1 2 p 9 h").lineByStrength(0));
        Doc.says(32, "Throws NoSuchElementException if there is no such rank");
        Scene.refused("no line", Scene.NO_ELEMENT, LineBattle::new, x -> x.lineByStrength(0));
        Scene.refused("5 of 5", Scene.NO_ELEMENT, Scene::rich, x -> x.lineByStrength(5));
        Scene.refused("12 of 12", Scene.NO_ELEMENT, Scene::twelve, x -> x.lineByStrength(12));
        for (int wrong : EXTREMES) {
            Scene.refused("rank " + wrong, Scene.NO_ELEMENT, Scene::rich, x -> x.lineByStrength(wrong));
        }
    }

    private static void turnCount() {
        Doc.says(33, "Returns the number of turns that have passed.");
        LineBattle b = new LineBattle();
        Check.due("none", 0, b::turnCount);
        b.turn();
        Check.due("one", 1, b::turnCount);
        Scene.run(b, "turn;turn");
        Check.due("three", 3, b::turnCount);
        Check.outcome(b::turnsUntilFight);
        Check.due("the ones looked ahead do not count", 3, b::turnCount);
        b.undo();
        Check.due("undone", 1, b::turnCount);
        Doc.says(33, "Returns the number of turns.");
        Check.due("300", 300, () -> Scene.turns(new LineBattle(), 300).turnCount());
    }

    private static void writeLane() {
        Doc.says(34, "Writes a lane, in place of the text written before: for each column \".\" if the cell is "
            + "empty, and otherwise the kind of the line, as a capital letter for side 1, and \"!\" behind it if the "
            + "line is routed; for example \"p..n!.....C\".");
        LineBattle b = Scene.rout();
        Scene.add(b, "0 0 p 9 h");
        Scene.add(b, "1 0 s 9 h");
        Scene.add(b, "0 1 s 9 h");
        Scene.add(b, "1 1 p 9 h");
        Scene.add(b, "0 2 c 9 h");
        Scene.add(b, "1 2 n 9 h");
        Check.due("routed of both sides", "p...n!C!...S", () -> Scene.lane(b, 0));
        Check.due("a shorter one in its place", "s........P", () -> Scene.lane(b, 1));
        Check.due("no more than it", "s........P", () -> Scene.written(b));
        Check.due("the last lane", "c........N", () -> Scene.lane(b, 2));
        Check.due("a longer one in its place", "p...n!C!...S", () -> Scene.lane(b, 0));
        Check.due("the fallen are not written", "........c.", () -> Scene.lane(Scene.fall(), 1));
        LineBattle full = Scene.twelve();
        Check.due("four", ".ssss.....", () -> Scene.lane(full, 2));
        Doc.says(34, "lane: the lane, 0 to 2");
        for (int lane = 0; lane < 3; lane++) {
            int l = lane;
            Check.due("lane " + l, 10, () -> new LineBattle().writeLane(l));
        }
        Doc.says(34, "Returns the length of the text.");
        Check.due("10", 10, () -> b.writeLane(1));
        Check.due("12", 12, () -> b.writeLane(0));
        Check.due("11", 11, () -> Scene.rich().writeLane(0));
        Doc.says(34, "Throws IndexOutOfBoundsException if there is no such lane");
        Scene.refused("lane 3", Scene.BOUNDS, Scene::rich, x -> x.writeLane(3));
        for (int wrong : EXTREMES) {
            Scene.refused("lane " + wrong, Scene.BOUNDS, Scene::rich, x -> x.writeLane(wrong));
        }
    }

    private static void writtenAt() {
        Doc.says(35, "Returns a character of the written text, which is empty at first.");
        Check.thrown("empty", Scene.BOUNDS, () -> new LineBattle().writtenAt(0));
        LineBattle b = Scene.rout();
        Check.thrown("not written yet", Scene.BOUNDS, () -> b.writtenAt(0));
        b.writeLane(0);
        b.turn();
        Check.due("as it was when it was written", "....n!C!....", () -> Scene.written(b));
        Doc.says(35, "index: index of the character, from 0");
        Check.due("0", '.', () -> b.writtenAt(0));
        Check.due("11", '.', () -> b.writtenAt(11));
        Doc.says(35, "Returns the character.");
        String text = "....n!C!....";
        for (int i = 0; i < 12; i++) {
            int index = i;
            Check.due("index " + i, text.charAt(i), () -> b.writtenAt(index));
        }
        Doc.says(35, "Throws IndexOutOfBoundsException if there is no such character");
        Check.thrown("12", Scene.BOUNDS, () -> b.writtenAt(12));
        b.writeLane(1);
        Check.thrown("10 of the shorter", Scene.BOUNDS, () -> b.writtenAt(10));
        Check.due("9 of the shorter", '.', () -> b.writtenAt(9));
        Scene.refused("11 of rich", Scene.BOUNDS, Scene::rich, x -> x.writtenAt(11));
        for (int wrong : EXTREMES) {
            Scene.refused("index " + wrong, Scene.BOUNDS, Scene::rich, x -> x.writtenAt(wrong));
        }
    }

    private static void meanMorale() {
        Doc.says(36, "Returns the mean morale of the lines that have not fallen.");
        Check.due("the routed count", 3.5, () -> Scene.rout().meanMorale());
        Check.due("the fallen do not count", 10.0, () -> Scene.fall().meanMorale());
        Check.due("nor those of side 0", 19.0, () -> Scene.attackerFalls().meanMorale());
        Doc.says(36, "Returns the sum of their morales divided by their number, both converted to double.");
        LineBattle three = Scene.rout();
        Scene.add(three, "0 1 p 9 h");
        Check.due("17 by 3", 17.0 / 3.0, three::meanMorale);
        LineBattle seven = Scene.turns(Scene.rout(), 1);
        for (String line : new String[] {"0 0 p 9 h", "0 1 p 9 h", "0 2 p 9 h", "1 1 p 9 h", "1 2 p 9 h"}) {
            Scene.add(seven, line);
        }
        Check.due("59 by 7", 59.0 / 7.0, seven::meanMorale);
        Doc.says(36, "Throws ArithmeticException if there are no such lines");
        Scene.refused("new", Scene.ARITHMETIC, LineBattle::new, LineBattle::meanMorale);
        LineBattle undone = Scene.battle("0 0 p 9 h");
        Check.due("one", 10.0, undone::meanMorale);
        undone.undo();
        Check.thrown("the only one undone", Scene.ARITHMETIC, undone::meanMorale);
    }

    private static void standingShare() {
        Doc.says(37, "Returns the share of the lines that stand.");
        Check.due("all", 1.0f, () -> Scene.twelve().standingShare());
        Check.due("none, both are routed", 0.0f, () -> Scene.rout().standingShare());
        Check.due("the fallen are lines, too", 0.5f, () -> Scene.fall().standingShare());
        Doc.says(37, "Returns their number divided by the number of lines that were added, both converted to "
            + "float.");
        LineBattle three = Scene.rout();
        Scene.add(three, "0 1 p 9 h");
        Check.due("1 by 3", 1.0f / 3.0f, three::standingShare);
        Check.due("3 by 5", 3.0f / 5.0f, () -> Scene.rich().standingShare());
        Doc.says(37, "Throws ArithmeticException if no line was added");
        Scene.refused("new", Scene.ARITHMETIC, LineBattle::new, LineBattle::standingShare);
        LineBattle undone = Scene.battle("0 0 p 9 h");
        Check.due("one", 1.0f, undone::standingShare);
        undone.undo();
        Check.thrown("the only one undone", Scene.ARITHMETIC, undone::standingShare);
    }

    private static void isConsistent() {
        Doc.says(38, "Returns whether the battle is consistent: supportOf and supportByLines, and enemyAhead and "
            + "enemyByDistances, agree for all lines that have not fallen, and strengthOfSide and strengthByCells "
            + "agree for both sides.");
        Check.due("new", true, () -> new LineBattle().isConsistent());
        Check.due("rich", true, () -> Scene.rich().isConsistent());
        Check.due("twelve", true, () -> Scene.twelve().isConsistent());
        Check.due("supported, with enemies ahead", true, () -> Scene.battle("0 0 p 9 h", "0 1 p 9 h", "0 2 p 9 h",
            "1 0 p 9 h", "1 1 p 9 h", "1 2 p 9 h").isConsistent());
        Doc.says(38, "Returns whether this holds.");
        LineBattle b = Scene.meeting();
        Scene.add(b, "0 1 s 20 a");
        Scene.add(b, "1 1 c 40 c");
        for (int i = 0; i < 30; i++) {
            b.turn();
            Check.due("turn " + b.turnCount(), true, b::isConsistent);
        }
    }
}
