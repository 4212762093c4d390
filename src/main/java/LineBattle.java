import java.util.Arrays;
import java.util.NoSuchElementException;

/** A battle of two sides on a field of three lanes and ten columns. */
public final class LineBattle {
    private static final int SIDES = 2;
    private static final int LANES = 3;
    private static final int COLUMNS = 10;
    private static final int MOST_LINES = 12;
    private static final int MOST_STRENGTH = 99;
    private static final int MOST_MORALE = 20;
    private static final int FIRST_MORALE = 10;
    private static final int FIRST_JARS = 3;
    private static final int ROUT_BELOW = 5;
    private static final int STAND_FROM = 8;
    private static final int JAR_MORALE = 6;
    private static final int CHARGE_BONUS = 6;
    private static final int SUPPORT_BONUS = 2;
    private static final int MOST_TURNS_AHEAD = 20;
    private static final int MOST_UNDONE = 8;
    private static final int MOST_SIGNS = 60;
    private static final char FIRST_SIGN = 32;
    private static final char LAST_SIGN = 126;
    private static final char NO_SIGN = 0;
    private static final int TO_CAPITAL = 'A' - 'a';

    private static final char PEPPER = 'p';
    private static final char NUTMEG = 'n';
    private static final char CLOVE = 'c';
    private static final String KINDS = "pncs";

    private static final char HOLD = 'h';
    private static final char ADVANCE = 'a';
    private static final String ORDERS = "hac";

    private static final int STANDS = 0;
    private static final int ROUTED = 1;
    private static final int FALLEN = 2;

    /** Stands for a number, an index or a column that there is not. */
    private static final int NONE = -1;

    private static final int FINE = 0;
    private static final int BAD_ARGUMENT = 1;
    private static final int NO_SUCH_LINE = 2;
    private static final int BAD_STATE = 3;
    private static final int NOT_POSSIBLE = 4;

    private final Field field = new Field();
    private final Field snapshot = new Field();
    /** For what is tried out, or may have to be taken back; nothing in it lasts from call to call. */
    private final Field scratch = new Field();
    private final History history = new History();
    private final CommandText text = new CommandText();
    /** A lane has at most one line, and so at most one "!", for each column. */
    private final char[] written = new char[2 * COLUMNS];
    private int writtenLength = 0;
    private boolean hasSnapshot = false;
    private int lastErrorPosition = NONE;
    private int lastFailedCommand = NONE;

    public LineBattle() {
    }

    // Modifications

    public int addLine(int side, int lane, char kind, int strength)
            throws IllegalArgumentException, IllegalStateException, UnsupportedOperationException {
        int fault = field.faultOfAdding(side, lane, kind, strength);
        if (fault == BAD_ARGUMENT) {
            throw new IllegalArgumentException("side, lane, kind or strength is out of range");
        }
        if (fault == BAD_STATE) {
            throw new IllegalStateException("there are 12 lines already");
        }
        if (fault == NOT_POSSIBLE) {
            throw new UnsupportedOperationException("there is a line in the first column");
        }
        history.keep(field);
        return field.add(side, lane, kind, strength);
    }

    public char setOrder(int line, char order)
            throws IndexOutOfBoundsException, IllegalArgumentException, IllegalStateException {
        int fault = field.faultOfOrdering(line, order);
        if (fault == NO_SUCH_LINE) {
            throw new IndexOutOfBoundsException("there is no such line");
        }
        if (fault == BAD_ARGUMENT) {
            throw new IllegalArgumentException("there is no such order");
        }
        if (fault == BAD_STATE) {
            throw new IllegalStateException("the line does not stand");
        }
        history.keep(field);
        return field.giveOrder(line, order);
    }

    public int rally(int line)
            throws IndexOutOfBoundsException, IllegalStateException, UnsupportedOperationException {
        int fault = field.faultOfRallying(line);
        if (fault == NO_SUCH_LINE) {
            throw new IndexOutOfBoundsException("there is no such line");
        }
        if (fault == BAD_STATE) {
            throw new IllegalStateException("the line is not routed");
        }
        if (fault == NOT_POSSIBLE) {
            throw new UnsupportedOperationException("its side has no jar");
        }
        history.keep(field);
        return field.useJar(line);
    }

    public int turn() {
        history.keep(field);
        return field.passTurn();
    }

    // Lines

    public int lineCount() {
        return field.count;
    }

    public int sideOf(int line) throws IndexOutOfBoundsException {
        return known(line).side;
    }

    public int laneOf(int line) throws IndexOutOfBoundsException, NoSuchElementException {
        return unfallen(line).lane;
    }

    public int columnOf(int line) throws IndexOutOfBoundsException, NoSuchElementException {
        return unfallen(line).column;
    }

    public char kindOf(int line) throws IndexOutOfBoundsException {
        return known(line).kind;
    }

    public int strengthOf(int line) throws IndexOutOfBoundsException {
        return known(line).strength;
    }

    public int moraleOf(int line) throws IndexOutOfBoundsException {
        return known(line).morale;
    }

    public char orderOf(int line) throws IndexOutOfBoundsException, IllegalStateException {
        Line asked = known(line);
        if (!asked.stands()) {
            throw new IllegalStateException("the line does not stand");
        }
        return asked.order;
    }

    public boolean isStanding(int line) throws IndexOutOfBoundsException {
        return known(line).stands();
    }

    public boolean isRouted(int line) throws IndexOutOfBoundsException {
        return known(line).routed();
    }

    public int routedTurns(int line) throws IndexOutOfBoundsException {
        return known(line).turnsRouted;
    }

    public int lineIn(int lane, int column) throws IndexOutOfBoundsException, NoSuchElementException {
        if (!isLane(lane) || !isColumn(column)) {
            throw new IndexOutOfBoundsException("there is no such cell");
        }
        Line occupant = field.occupant(lane, column);
        if (occupant == null) {
            throw new NoSuchElementException("there is no line in this cell");
        }
        return occupant.number;
    }

    // Fights and enemies

    public int attackOf(int line) throws IndexOutOfBoundsException {
        return known(line).attack(false);
    }

    public int counterOf(int line) throws IndexOutOfBoundsException {
        return known(line).counter();
    }

    public int supportOf(int line) throws IndexOutOfBoundsException, NoSuchElementException {
        return field.supportInCells(unfallen(line));
    }

    public int supportByLines(int line) throws IndexOutOfBoundsException, NoSuchElementException {
        return field.supportAmongLines(unfallen(line));
    }

    public int enemyAhead(int line) throws IndexOutOfBoundsException, NoSuchElementException {
        int enemy = field.enemyInCells(unfallen(line));
        if (enemy == NONE) {
            throw new NoSuchElementException("there is no enemy ahead");
        }
        return enemy;
    }

    public int enemyByDistances(int line) throws IndexOutOfBoundsException, NoSuchElementException {
        int enemy = field.enemyAmongLines(unfallen(line));
        if (enemy == NONE) {
            throw new NoSuchElementException("there is no enemy ahead");
        }
        return enemy;
    }

    public int fightCount() {
        return field.fights;
    }

    public int turnsUntilFight() throws NoSuchElementException {
        scratch.copyFrom(field);
        for (int turns = 1; turns <= MOST_TURNS_AHEAD; turns++) {
            if (scratch.passTurn() > 0) {
                return turns;
            }
        }
        throw new NoSuchElementException("there will be no fight within 20 turns");
    }

    // Sides

    public int jarsOf(int side) throws IllegalArgumentException {
        requireSide(side);
        return field.jars(side);
    }

    public int strengthOfSide(int side) throws IllegalArgumentException {
        requireSide(side);
        return field.strengthAmongLines(side);
    }

    public int strengthByCells(int side) throws IllegalArgumentException {
        requireSide(side);
        return field.strengthInCells(side);
    }

    public int fallenOf(int side) throws IllegalArgumentException {
        requireSide(side);
        return field.fallen(side);
    }

    public int frontOf(int side, int lane) throws IllegalArgumentException, NoSuchElementException {
        if (!isSide(side) || !isLane(lane)) {
            throw new IllegalArgumentException("there is no such side or lane");
        }
        int front = field.front(side, lane);
        if (front == NONE) {
            throw new NoSuchElementException("the side has no line in this lane");
        }
        return front;
    }

    public int leader() throws NoSuchElementException {
        int lead = field.strengthAmongLines(0) - field.strengthAmongLines(1);
        if (lead == 0) {
            throw new NoSuchElementException("both sides have the same strength");
        }
        return lead > 0 ? 0 : 1;
    }

    public int lineByStrength(int rank) throws NoSuchElementException {
        int number = field.lineOfRank(rank);
        if (number == NONE) {
            throw new NoSuchElementException("there is no such rank");
        }
        return number;
    }

    public int turnCount() {
        return field.turns;
    }

    // Written text, statistics and checks

    public int writeLane(int lane) throws IndexOutOfBoundsException {
        if (!isLane(lane)) {
            throw new IndexOutOfBoundsException("there is no such lane");
        }
        writtenLength = 0;
        for (int column = 0; column < COLUMNS; column++) {
            Line occupant = field.occupant(lane, column);
            if (occupant == null) {
                write('.');
            } else {
                write(occupant.letter());
                if (occupant.routed()) {
                    write('!');
                }
            }
        }
        return writtenLength;
    }

    public char writtenAt(int index) throws IndexOutOfBoundsException {
        if (index < 0 || index >= writtenLength || index >= written.length) {
            throw new IndexOutOfBoundsException("there is no such character");
        }
        return written[index];
    }

    public double meanMorale() throws ArithmeticException {
        int unfallen = field.unfallenCount();
        if (unfallen == 0) {
            throw new ArithmeticException("there are no lines that have not fallen");
        }
        return (double) field.moraleSum() / (double) unfallen;
    }

    public float standingShare() throws ArithmeticException {
        int added = field.count;
        if (added == 0) {
            throw new ArithmeticException("no line was added");
        }
        return (float) field.standingCount() / (float) added;
    }

    public boolean isConsistent() {
        return field.agrees();
    }

    // Text, undo and snapshots

    public int type(char character) throws IllegalArgumentException, IllegalStateException {
        if (character < FIRST_SIGN || character > LAST_SIGN) {
            throw new IllegalArgumentException("the character is not from 32 to 126");
        }
        if (!text.append(character)) {
            throw new IllegalStateException("the buffer is full");
        }
        return text.length;
    }

    public int execute() throws IllegalArgumentException, IllegalStateException {
        int commands = text.countCommands();
        if (commands == NONE) {
            lastErrorPosition = text.position;
            text.clear();
            throw new IllegalArgumentException("the text is malformed");
        }
        scratch.copyFrom(field);
        text.rewind();
        int performed = 0;
        while (performed < commands && text.readNext() && perform()) {
            performed++;
        }
        text.clear();
        if (performed < commands) {
            field.copyFrom(scratch);
            lastFailedCommand = performed;
            throw new IllegalStateException("a command failed");
        }
        history.keep(scratch);
        return commands;
    }

    public int errorPosition() throws NoSuchElementException {
        if (lastErrorPosition == NONE) {
            throw new NoSuchElementException("no text was malformed so far");
        }
        return lastErrorPosition;
    }

    public int failedCommand() throws NoSuchElementException {
        if (lastFailedCommand == NONE) {
            throw new NoSuchElementException("no command failed so far");
        }
        return lastFailedCommand;
    }

    public int undo() throws IllegalStateException {
        if (!history.takeBack(field)) {
            throw new IllegalStateException("nothing can be undone");
        }
        return history.depth;
    }

    public int save() {
        snapshot.copyFrom(field);
        hasSnapshot = true;
        return field.count;
    }

    public int restore() throws IllegalStateException {
        if (!hasSnapshot) {
            throw new IllegalStateException("there is no snapshot");
        }
        field.copyFrom(snapshot);
        history.forget();
        return field.count;
    }

    // Private

    private static boolean isSide(int side) {
        return side >= 0 && side < SIDES;
    }

    private static boolean isLane(int lane) {
        return lane >= 0 && lane < LANES;
    }

    private static boolean isColumn(int column) {
        return column >= 0 && column < COLUMNS;
    }

    private static void requireSide(int side) throws IllegalArgumentException {
        if (!isSide(side)) {
            throw new IllegalArgumentException("there is no such side");
        }
    }

    private Line known(int number) throws IndexOutOfBoundsException {
        Line line = field.line(number);
        if (line == null) {
            throw new IndexOutOfBoundsException("there is no such line");
        }
        return line;
    }

    private Line unfallen(int number) throws IndexOutOfBoundsException, NoSuchElementException {
        Line line = known(number);
        if (line.hasFallen()) {
            throw new NoSuchElementException("the line has fallen");
        }
        return line;
    }

    private void write(char sign) {
        if (writtenLength >= 0 && writtenLength < written.length) {
            written[writtenLength] = sign;
            writtenLength++;
        }
    }

    /** Does what the command that was read last asks for; answers false, and does nothing, if it fails. */
    private boolean perform() {
        if (text.initial == 'l') {
            if (field.faultOfAdding(text.first, text.second, text.sign, text.number) != FINE) {
                return false;
            }
            field.add(text.first, text.second, text.sign, text.number);
        } else if (text.initial == 'o') {
            if (field.faultOfOrdering(text.number, text.sign) != FINE) {
                return false;
            }
            field.giveOrder(text.number, text.sign);
        } else if (text.initial == 'r') {
            if (field.faultOfRallying(text.number) != FINE) {
                return false;
            }
            field.useJar(text.number);
        } else {
            field.passTurn();
        }
        return true;
    }

    /** One line. */
    private static final class Line {
        final int number;
        int side = 0;
        int lane = 0;
        int column = 0;
        char kind = PEPPER;
        char order = HOLD;
        int strength = 0;
        int morale = 0;
        int condition = FALLEN;
        int turnsRouted = 0;

        Line(int number) {
            this.number = number;
        }

        void copyFrom(Line other) {
            side = other.side;
            lane = other.lane;
            column = other.column;
            kind = other.kind;
            order = other.order;
            strength = other.strength;
            morale = other.morale;
            condition = other.condition;
            turnsRouted = other.turnsRouted;
        }

        boolean stands() {
            return condition == STANDS;
        }

        boolean routed() {
            return condition == ROUTED;
        }

        boolean hasFallen() {
            return condition == FALLEN;
        }

        /** How the column changes by a cell forward. */
        int forward() {
            return side == 0 ? 1 : -1;
        }

        int attack(boolean charging) {
            if (kind == PEPPER) {
                return strength / 4 + (charging ? CHARGE_BONUS : 0);
            }
            if (kind == NUTMEG) {
                return strength / 5 + 2;
            }
            if (kind == CLOVE) {
                return strength / 3;
            }
            return strength / 6 + 1;
        }

        int counter() {
            if (kind == PEPPER) {
                return strength / 8;
            }
            if (kind == NUTMEG) {
                return strength / 4;
            }
            if (kind == CLOVE) {
                return strength / 10;
            }
            return strength / 6;
        }

        void suffer(int damage) {
            strength = Math.max(0, strength - damage);
            morale = Math.max(0, morale - damage / 3);
        }

        void gainMorale(int gain) {
            morale = Math.min(MOST_MORALE, morale + gain);
        }

        void standIfBold() {
            if (morale >= STAND_FROM) {
                condition = STANDS;
                order = HOLD;
            }
        }

        char letter() {
            return side == 0 ? kind : (char) (kind + TO_CAPITAL);
        }
    }

    /** The state that is undone, saved and restored. */
    private static final class Field {
        /** All lines are made at once, so that no call makes any; those from count on are not added yet. */
        private final Line[] lines = new Line[MOST_LINES];
        private final int[] cells = new int[LANES * COLUMNS];
        int count = 0;
        int turns = 0;
        int fights = 0;
        private int jarsOfFirst = FIRST_JARS;
        private int jarsOfSecond = FIRST_JARS;

        Field() {
            for (int i = 0; i < lines.length; i++) {
                lines[i] = new Line(i);
            }
            Arrays.fill(cells, NONE);
        }

        void copyFrom(Field other) {
            for (int i = 0; i < lines.length && i < other.lines.length; i++) {
                Line mine = lines[i];
                Line theirs = other.lines[i];
                if (mine != null && theirs != null) {
                    mine.copyFrom(theirs);
                }
            }
            for (int i = 0; i < cells.length && i < other.cells.length; i++) {
                cells[i] = other.cells[i];
            }
            count = other.count;
            turns = other.turns;
            fights = other.fights;
            jarsOfFirst = other.jarsOfFirst;
            jarsOfSecond = other.jarsOfSecond;
        }

        /** The line with this number, or null if none was added. */
        Line line(int number) {
            if (number < 0 || number >= count || number >= lines.length) {
                return null;
            }
            return lines[number];
        }

        /** The line in a cell, or null if the cell is empty or not in the field. */
        Line occupant(int lane, int column) {
            if (!isLane(lane) || !isColumn(column)) {
                return null;
            }
            int cell = lane * COLUMNS + column;
            if (cell < 0 || cell >= cells.length) {
                return null;
            }
            return line(cells[cell]);
        }

        private void putInto(int lane, int column, int number) {
            int cell = lane * COLUMNS + column;
            if (cell >= 0 && cell < cells.length) {
                cells[cell] = number;
            }
        }

        int jars(int side) {
            return side == 0 ? jarsOfFirst : jarsOfSecond;
        }

        int faultOfAdding(int side, int lane, char kind, int strength) {
            if (!isSide(side) || !isLane(lane) || KINDS.indexOf(kind) < 0
                    || strength < 1 || strength > MOST_STRENGTH) {
                return BAD_ARGUMENT;
            }
            if (count >= MOST_LINES) {
                return BAD_STATE;
            }
            return occupant(lane, firstColumn(side)) == null ? FINE : NOT_POSSIBLE;
        }

        int add(int side, int lane, char kind, int strength) {
            int number = count;
            count++;
            Line added = line(number);
            if (added == null) {
                return NONE;
            }
            added.side = side;
            added.lane = lane;
            added.column = firstColumn(side);
            added.kind = kind;
            added.order = HOLD;
            added.strength = strength;
            added.morale = FIRST_MORALE;
            added.condition = STANDS;
            added.turnsRouted = 0;
            putInto(lane, added.column, number);
            return number;
        }

        private static int firstColumn(int side) {
            return side == 0 ? 0 : COLUMNS - 1;
        }

        int faultOfOrdering(int number, char order) {
            Line line = line(number);
            if (line == null) {
                return NO_SUCH_LINE;
            }
            if (ORDERS.indexOf(order) < 0) {
                return BAD_ARGUMENT;
            }
            return line.stands() ? FINE : BAD_STATE;
        }

        /** Answers the order before. */
        char giveOrder(int number, char order) {
            Line line = line(number);
            if (line == null) {
                return NO_SIGN;
            }
            char before = line.order;
            line.order = order;
            return before;
        }

        int faultOfRallying(int number) {
            Line line = line(number);
            if (line == null) {
                return NO_SUCH_LINE;
            }
            if (!line.routed()) {
                return BAD_STATE;
            }
            return jars(line.side) > 0 ? FINE : NOT_POSSIBLE;
        }

        /** Answers the morale afterwards. */
        int useJar(int number) {
            Line line = line(number);
            if (line == null) {
                return NONE;
            }
            if (line.side == 0) {
                jarsOfFirst--;
            } else {
                jarsOfSecond--;
            }
            line.gainMorale(JAR_MORALE);
            line.standIfBold();
            return line.morale;
        }

        /** Answers the number of fights in the turn. */
        int passTurn() {
            int fightsBefore = fights;
            for (int i = 0; i < count; i++) {
                Line line = line(i);
                if (line != null && line.stands()) {
                    obey(line);
                } else if (line != null && line.routed()) {
                    retreat(line);
                }
            }
            turns++;
            return fights - fightsBefore;
        }

        private void retreat(Line line) {
            line.turnsRouted++;
            moveIfFree(line, -line.forward());
            line.gainMorale(1);
            line.standIfBold();
        }

        private void obey(Line line) {
            if (line.order == HOLD) {
                line.gainMorale(1);
                return;
            }
            boolean moved = moveIfFree(line, line.forward());
            if (moved && line.order == ADVANCE) {
                return;
            }
            if (moved) {
                moveIfFree(line, line.forward());
            }
            Line next = occupant(line.lane, line.column + line.forward());
            if (next != null && next.side != line.side) {
                fight(line, next, moved);
            }
        }

        /** Moves a line by this change of its column; answers false if the cell is not free. */
        private boolean moveIfFree(Line line, int change) {
            int column = line.column + change;
            if (!isColumn(column) || occupant(line.lane, column) != null) {
                return false;
            }
            putInto(line.lane, line.column, NONE);
            line.column = column;
            putInto(line.lane, column, line.number);
            return true;
        }

        private void fight(Line line, Line enemy, boolean charging) {
            fights++;
            enemy.suffer(line.attack(charging) + SUPPORT_BONUS * supportAmongLines(line));
            if (enemy.strength > 0) {
                line.suffer(enemy.counter());
            }
            settle(enemy);
            settle(line);
        }

        /** What becomes of a line after its fight. */
        private void settle(Line line) {
            if (line.strength == 0) {
                line.condition = FALLEN;
                putInto(line.lane, line.column, NONE);
            } else if (line.stands() && line.morale < ROUT_BELOW) {
                line.condition = ROUTED;
            }
        }

        int supportInCells(Line line) {
            int support = 0;
            for (int lane = line.lane - 1; lane <= line.lane + 1; lane += 2) {
                Line neighbour = occupant(lane, line.column);
                if (neighbour != null && neighbour.side == line.side && neighbour.stands()) {
                    support++;
                }
            }
            return support;
        }

        int supportAmongLines(Line line) {
            int support = 0;
            for (int i = 0; i < count; i++) {
                Line other = line(i);
                if (other != null && other.stands() && other.side == line.side && other.column == line.column
                        && Math.abs(other.lane - line.lane) == 1) {
                    support++;
                }
            }
            return support;
        }

        /** The number of the first enemy ahead, or NONE. */
        int enemyInCells(Line line) {
            for (int distance = 1; distance < COLUMNS; distance++) {
                Line other = occupant(line.lane, line.column + distance * line.forward());
                if (other != null && other.side != line.side) {
                    return other.number;
                }
            }
            return NONE;
        }

        /** The number of the first enemy ahead, or NONE. */
        int enemyAmongLines(Line line) {
            int nearest = NONE;
            int leastDistance = COLUMNS;
            for (int i = 0; i < count; i++) {
                Line other = line(i);
                if (other != null && !other.hasFallen() && other.side != line.side && other.lane == line.lane) {
                    int distance = (other.column - line.column) * line.forward();
                    if (distance > 0 && distance < leastDistance) {
                        nearest = i;
                        leastDistance = distance;
                    }
                }
            }
            return nearest;
        }

        int strengthAmongLines(int side) {
            int sum = 0;
            for (int i = 0; i < count; i++) {
                Line line = line(i);
                if (line != null && line.side == side) {
                    sum += line.strength;
                }
            }
            return sum;
        }

        int strengthInCells(int side) {
            int sum = 0;
            for (int lane = 0; lane < LANES; lane++) {
                for (int column = 0; column < COLUMNS; column++) {
                    Line line = occupant(lane, column);
                    if (line != null && line.side == side) {
                        sum += line.strength;
                    }
                }
            }
            return sum;
        }

        int fallen(int side) {
            int fallen = 0;
            for (int i = 0; i < count; i++) {
                Line line = line(i);
                if (line != null && line.side == side && line.hasFallen()) {
                    fallen++;
                }
            }
            return fallen;
        }

        /** The column of the line of a side in a lane that is farthest forward, or NONE. */
        int front(int side, int lane) {
            int front = NONE;
            for (int steps = 0; steps < COLUMNS; steps++) {
                int column = side == 0 ? steps : COLUMNS - 1 - steps;
                Line line = occupant(lane, column);
                if (line != null && line.side == side) {
                    front = column;
                }
            }
            return front;
        }

        /** The number of the line with this rank by strength, or NONE. */
        int lineOfRank(int rank) {
            for (int i = 0; i < count; i++) {
                Line line = line(i);
                if (line != null && strongerThan(line) == rank) {
                    return i;
                }
            }
            return NONE;
        }

        private int strongerThan(Line line) {
            int stronger = 0;
            for (int i = 0; i < count; i++) {
                Line other = line(i);
                if (other != null && (other.strength > line.strength
                        || other.strength == line.strength && i < line.number)) {
                    stronger++;
                }
            }
            return stronger;
        }

        int unfallenCount() {
            return count - fallen(0) - fallen(1);
        }

        int moraleSum() {
            int sum = 0;
            for (int i = 0; i < count; i++) {
                Line line = line(i);
                if (line != null && !line.hasFallen()) {
                    sum += line.morale;
                }
            }
            return sum;
        }

        int standingCount() {
            int standing = 0;
            for (int i = 0; i < count; i++) {
                Line line = line(i);
                if (line != null && line.stands()) {
                    standing++;
                }
            }
            return standing;
        }

        /** Whether the two ways to find support, enemies and sums of strength agree. */
        boolean agrees() {
            for (int i = 0; i < count; i++) {
                Line line = line(i);
                if (line != null && !line.hasFallen() && (supportInCells(line) != supportAmongLines(line)
                        || enemyInCells(line) != enemyAmongLines(line))) {
                    return false;
                }
            }
            return strengthInCells(0) == strengthAmongLines(0) && strengthInCells(1) == strengthAmongLines(1);
        }
    }

    /** The states before the last modifications, in a ring whose oldest state gives way. */
    private static final class History {
        private final Field[] states = new Field[MOST_UNDONE];
        private int newest = 0;
        int depth = 0;

        History() {
            for (int i = 0; i < states.length; i++) {
                states[i] = new Field();
            }
        }

        void keep(Field field) {
            newest = (newest + 1) % MOST_UNDONE;
            depth = Math.min(MOST_UNDONE, depth + 1);
            Field state = newestState();
            if (state != null) {
                state.copyFrom(field);
            }
        }

        /** Puts the newest state into the field; answers false if there is none. */
        boolean takeBack(Field field) {
            Field state = newestState();
            if (depth == 0 || state == null) {
                return false;
            }
            field.copyFrom(state);
            newest = (newest + MOST_UNDONE - 1) % MOST_UNDONE;
            depth--;
            return true;
        }

        void forget() {
            depth = 0;
        }

        private Field newestState() {
            return newest < 0 || newest >= states.length ? null : states[newest];
        }
    }

    /** The text buffer, and a reader of its grammar that stops at the first sign that does not fit. */
    private static final class CommandText {
        private final char[] signs = new char[MOST_SIGNS];
        int length = 0;
        int position = 0;

        /** The command that was read last: the first letter of its word, and its parameters. */
        char initial = NO_SIGN;
        int first = 0;
        int second = 0;
        char sign = NO_SIGN;
        int number = 0;

        /** Answers false if the buffer is full. */
        boolean append(char character) {
            if (length < 0 || length >= signs.length) {
                return false;
            }
            signs[length] = character;
            length++;
            return true;
        }

        void clear() {
            length = 0;
        }

        void rewind() {
            position = 0;
        }

        /** Answers the number of commands, or NONE if the text is malformed at the position. */
        int countCommands() {
            rewind();
            for (int commands = 1; commands <= MOST_SIGNS; commands++) {
                if (!readCommand()) {
                    return NONE;
                }
                if (position >= length) {
                    return commands;
                }
                if (!take(';')) {
                    return NONE;
                }
            }
            return NONE;
        }

        /** Reads the next command, over the ";" in front of it. */
        boolean readNext() {
            return (position == 0 || take(';')) && readCommand();
        }

        private boolean readCommand() {
            initial = peek();
            if (initial == 'l') {
                return takeWord("line") && readPlace() && readSign(KINDS) && readNumber();
            }
            if (initial == 'o') {
                return takeWord("order") && readNumber() && readSign(ORDERS);
            }
            if (initial == 'r') {
                return takeWord("rally") && readNumber();
            }
            return takeWord("turn");
        }

        private boolean readPlace() {
            first = take(' ') ? takeDigit() : NONE;
            if (first == NONE) {
                return false;
            }
            second = take(' ') ? takeDigit() : NONE;
            return second != NONE;
        }

        private boolean readSign(String allowed) {
            if (!take(' ')) {
                return false;
            }
            sign = peek();
            return allowed.indexOf(sign) >= 0 && take(sign);
        }

        private boolean readNumber() {
            number = take(' ') ? takeDigit() : NONE;
            if (number == NONE) {
                return false;
            }
            int next = takeDigit();
            if (next != NONE) {
                number = number * 10 + next;
            }
            return true;
        }

        private boolean takeWord(String word) {
            for (int i = 0; i < word.length(); i++) {
                if (!take(word.charAt(i))) {
                    return false;
                }
            }
            return true;
        }

        private boolean take(char wanted) {
            if (peek() != wanted) {
                return false;
            }
            position++;
            return true;
        }

        /** Answers the value of the digit that was taken, or NONE. */
        private int takeDigit() {
            char digit = peek();
            if (digit < '0' || digit > '9') {
                return NONE;
            }
            position++;
            return digit - '0';
        }

        /** The sign at the position, or NO_SIGN at the end. */
        private char peek() {
            if (position < 0 || position >= length || position >= signs.length) {
                return NO_SIGN;
            }
            return signs[position];
        }
    }
}
