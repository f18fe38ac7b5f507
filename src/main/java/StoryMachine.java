public final class StoryMachine {
    private static final int MOST_AT_ONCE = 8;
    private static final int MOST_STEPS = 300;
    private static final int LOWEST_TYPED = 32;
    private static final int HIGHEST_TYPED = 126;

    private final Memory memory;
    private final Line line;
    private final Routines routines;
    private final Printer printer;
    private final Engine engine;

    public StoryMachine() {
        Memory newMemory = new Memory();
        Line newLine = new Line();
        Routines newRoutines = new Routines();
        Printer newPrinter = new Printer(newMemory);
        memory = newMemory;
        line = newLine;
        routines = newRoutines;
        printer = newPrinter;
        engine = new Engine(newMemory, newLine, newRoutines, newPrinter);
    }

    public void poke(int place, long bytes, int n) throws IllegalArgumentException {
        if (n < 1 || n > MOST_AT_ONCE || place < 0 || place > Memory.SIZE - n) {
            throw new IllegalArgumentException();
        }
        for (int i = 0; i < n; i++) {
            memory.bytes[place + i] = packed(bytes, n, i);
        }
    }

    public int peek(int place) throws IllegalArgumentException {
        if (place < 0 || place >= Memory.SIZE) {
            throw new IllegalArgumentException();
        }
        return memory.bytes[place];
    }

    public void begin() throws IllegalStateException {
        int start = memory.wordAt(Memory.STORY);
        if (start >= Memory.SIZE) {
            throw new IllegalStateException();
        }
        engine.startAt(start);
    }

    public void type(long bytes, int n) throws IllegalArgumentException, IllegalStateException {
        if (n < 1 || n > MOST_AT_ONCE) {
            throw new IllegalArgumentException();
        }
        for (int i = 0; i < n; i++) {
            int character = packed(bytes, n, i);
            if (character < LOWEST_TYPED || character > HIGHEST_TYPED) {
                throw new IllegalArgumentException();
            }
        }
        if (line.typedLength + n > Line.MOST) {
            throw new IllegalStateException();
        }
        for (int i = 0; i < n; i++) {
            line.add(packed(bytes, n, i));
        }
    }

    public void enter() {
        line.finish();
    }

    public int run(int steps) throws IllegalArgumentException, IllegalStateException {
        if (steps < 1 || steps > MOST_STEPS) {
            throw new IllegalArgumentException();
        }
        if (!engine.canGoOn) {
            throw new IllegalStateException();
        }
        int answer = Engine.DONE;
        for (int i = 0; i < steps && answer == Engine.DONE; i++) {
            answer = engine.tryStep();
        }
        return answer;
    }

    public int steps() {
        return engine.stepsDone;
    }

    public int place() {
        return engine.current;
    }

    public int output(int k) throws IndexOutOfBoundsException {
        if (k < -1 || k >= Printer.KEPT || k >= printer.count) {
            throw new IndexOutOfBoundsException();
        }
        return k == -1 ? printer.count : printer.latest(k);
    }

    public int stack(int k) throws IndexOutOfBoundsException {
        if (k < -1 || k >= routines.height) {
            throw new IndexOutOfBoundsException();
        }
        return k == -1 ? routines.height : routines.words[routines.height - 1 - k];
    }

    public int local(int k) throws IndexOutOfBoundsException {
        if (k < 0 || k > Routines.MOST_LOCALS) {
            throw new IndexOutOfBoundsException();
        }
        if (k == 0) {
            return routines.localCount();
        }
        return k <= routines.localCount() ? routines.localValue(k) : 0;
    }

    public int routines() {
        return routines.depth;
    }

    private static int packed(long bytes, int n, int i) {
        return (int) (bytes >> (8 * (n - 1 - i))) & 255;
    }

    /*
     * A step that comes into trouble is left by an exception, so that what it has done stays done
     * and nothing more is: IllegalArgumentException stands for BAD, IllegalStateException for an
     * empty or full stack or too many routines, ArithmeticException for DIVISION and
     * UnsupportedOperationException for WAITING. Engine.tryStep turns them into numbers.
     */

    private static final class Memory {
        static final int SIZE = 512;
        static final int STORY = 4;
        static final int DICTIONARY = 6;
        static final int OBJECTS = 8;
        static final int GLOBALS = 10;
        static final int BASE = 12;
        static final int HEAD_SIZE = 16;

        final int[] bytes = new int[SIZE];

        int byteAt(int place) {
            if (place < 0 || place >= SIZE) {
                throw new IllegalArgumentException();
            }
            return bytes[place];
        }

        int wordAt(int place) {
            if (place < 0 || place >= SIZE - 1) {
                throw new IllegalArgumentException();
            }
            return 256 * bytes[place] + bytes[place + 1];
        }

        void writeByte(int place, int value) {
            if (!mayWrite(place, 1)) {
                throw new IllegalArgumentException();
            }
            bytes[place] = value & 255;
        }

        void writeWord(int place, int value) {
            if (!mayWrite(place, 2)) {
                throw new IllegalArgumentException();
            }
            bytes[place] = (value >> 8) & 255;
            bytes[place + 1] = value & 255;
        }

        private boolean mayWrite(int place, int n) {
            int base = 256 * bytes[BASE] + bytes[BASE + 1];
            return place >= HEAD_SIZE && place <= SIZE - n && place <= base - n;
        }

        void copyFrom(Memory other) {
            System.arraycopy(other.bytes, 0, bytes, 0, SIZE);
        }
    }

    /** The stack and the routines that stand open; number 0 is the story itself, which never closes. */
    private static final class Routines {
        static final int MOST_WORDS = 48;
        static final int MOST_CALLED = 10;
        static final int MOST_LOCALS = 15;

        final int[] words = new int[MOST_WORDS];
        int height;
        int depth;
        private final int[] floors = new int[MOST_CALLED + 1];
        private final int[] behinds = new int[MOST_CALLED + 1];
        private final int[] results = new int[MOST_CALLED + 1];
        private final int[] localCounts = new int[MOST_CALLED + 1];
        private final int[] locals = new int[(MOST_CALLED + 1) * MOST_LOCALS];

        void clear() {
            height = 0;
            depth = 0;
            floors[0] = 0;
            localCounts[0] = 0;
        }

        void push(int value) {
            if (height >= MOST_WORDS) {
                throw new IllegalStateException();
            }
            words[height] = value & 65535;
            height++;
        }

        int pop() {
            int value = top();
            height--;
            return value;
        }

        int top() {
            if (height <= floors[depth]) {
                throw new IllegalStateException();
            }
            return words[height - 1];
        }

        void replaceTop(int value) {
            if (height <= floors[depth]) {
                throw new IllegalStateException();
            }
            words[height - 1] = value & 65535;
        }

        int localCount() {
            return localCounts[depth];
        }

        int localValue(int number) {
            if (number < 1 || number > localCounts[depth]) {
                throw new IllegalArgumentException();
            }
            return locals[depth * MOST_LOCALS + number - 1];
        }

        void setLocal(int number, int value) {
            if (number < 1 || number > localCounts[depth]) {
                throw new IllegalArgumentException();
            }
            locals[depth * MOST_LOCALS + number - 1] = value & 65535;
        }

        void demandRoom() {
            if (depth >= MOST_CALLED) {
                throw new IllegalStateException();
            }
        }

        void open(int[] newLocals, int count, int behind, int result) {
            demandRoom();
            depth++;
            floors[depth] = height;
            behinds[depth] = behind;
            results[depth] = result;
            localCounts[depth] = count;
            System.arraycopy(newLocals, 0, locals, depth * MOST_LOCALS, count);
        }

        int behind() {
            return behinds[depth];
        }

        int result() {
            return results[depth];
        }

        void close() {
            if (depth == 0) {
                throw new IllegalArgumentException();
            }
            height = floors[depth];
            depth--;
        }

        void copyFrom(Routines other) {
            height = other.height;
            depth = other.depth;
            System.arraycopy(other.words, 0, words, 0, words.length);
            System.arraycopy(other.floors, 0, floors, 0, floors.length);
            System.arraycopy(other.behinds, 0, behinds, 0, behinds.length);
            System.arraycopy(other.results, 0, results, 0, results.length);
            System.arraycopy(other.localCounts, 0, localCounts, 0, localCounts.length);
            System.arraycopy(other.locals, 0, locals, 0, locals.length);
        }
    }

    private static final class Variables {
        private static final int FIRST_GLOBAL = 16;
        private static final int BEHIND_GLOBALS = 48;

        private final Memory memory;
        private final Routines routines;

        Variables(Memory memory, Routines routines) {
            this.memory = memory;
            this.routines = routines;
        }

        /** Named by a number, the top of the stack stays when it is read. */
        int read(int variable, boolean named) {
            if (variable == 0) {
                return named ? routines.top() : routines.pop();
            }
            if (variable < FIRST_GLOBAL) {
                return routines.localValue(variable);
            }
            return memory.wordAt(globalPlace(variable));
        }

        /** Named by a number, the top of the stack is replaced. */
        void write(int variable, int value, boolean named) {
            if (variable == 0 && named) {
                routines.replaceTop(value);
            } else if (variable == 0) {
                routines.push(value);
            } else if (variable < FIRST_GLOBAL) {
                routines.setLocal(variable, value);
            } else {
                memory.writeWord(globalPlace(variable), value);
            }
        }

        private int globalPlace(int variable) {
            if (variable >= BEHIND_GLOBALS) {
                throw new IllegalArgumentException();
            }
            return memory.wordAt(Memory.GLOBALS) + 2 * (variable - FIRST_GLOBAL);
        }
    }

    private static final class Printer {
        static final int KEPT = 64;
        static final int NEW_LINE = 13;
        /** The letters 8 to 31 of the third alphabet. */
        static final String SIGNS = "0123456789.,!?_#'\"/\\-:()";
        static final int FIRST_SIGN = 8;
        private static final int SPACE = 32;
        private static final int MINUS = 45;
        private static final int PLAIN = 0;
        private static final int CAPITALS = 1;
        private static final int OTHERS = 2;
        private static final int UPPER_HALF = 3;
        private static final int LOWER_HALF = 4;

        private final Memory memory;
        private final int[] kept = new int[KEPT];
        int count;
        private int mode;
        private int half;

        Printer(Memory memory) {
            this.memory = memory;
        }

        void put(int character) {
            kept[count & (KEPT - 1)] = character;
            count++;
        }

        int latest(int k) {
            return kept[(count - 1 - k) & (KEPT - 1)];
        }

        void putNumber(int value) {
            if (value < 0) {
                put(MINUS);
            }
            int size = Math.abs(value);
            for (int unit = 10000; unit > 0; unit /= 10) {
                if (size >= unit || unit == 1) {
                    put('0' + size / unit % 10);
                }
            }
        }

        /** Answers the place behind the text. */
        int putText(int place) {
            mode = PLAIN;
            for (int at = place; at < Memory.SIZE; at += 2) {
                int word = memory.wordAt(at);
                putLetter((word >> 10) & 31);
                putLetter((word >> 5) & 31);
                putLetter(word & 31);
                if (word >= 32768) {
                    return at + 2;
                }
            }
            throw new IllegalArgumentException();
        }

        private void putLetter(int letter) {
            int now = mode;
            mode = PLAIN;
            if (now == UPPER_HALF) {
                half = letter;
                mode = LOWER_HALF;
            } else if (now == LOWER_HALF) {
                put((32 * half + letter) & 255);
            } else if (letter == 0) {
                put(SPACE);
            } else if (letter == 4) {
                mode = CAPITALS;
            } else if (letter == 5) {
                mode = OTHERS;
            } else if (letter >= 6) {
                putOf(now, letter);
            }
        }

        private void putOf(int alphabet, int letter) {
            if (alphabet == PLAIN) {
                put('a' + letter - 6);
            } else if (alphabet == CAPITALS) {
                put('A' + letter - 6);
            } else if (letter == 6) {
                mode = UPPER_HALF;
            } else if (letter == 7) {
                put(NEW_LINE);
            } else {
                put(SIGNS.charAt(letter - FIRST_SIGN));
            }
        }
    }

    private static final class Tree {
        private static final int MOST_OBJECTS = 20;
        private static final int DEFAULTS = 7;
        private static final int OBJECT_SIZE = 9;
        private static final int PARENT = 4;
        private static final int SIBLING = 5;
        private static final int CHILD = 6;
        private static final int DESCRIPTION = 7;
        private static final int HIGHEST_ATTRIBUTE = 31;

        private final Memory memory;

        Tree(Memory memory) {
            this.memory = memory;
        }

        private int placeOf(int object) {
            if (object < 1 || object > MOST_OBJECTS) {
                throw new IllegalArgumentException();
            }
            return memory.wordAt(Memory.OBJECTS) + 2 * DEFAULTS + OBJECT_SIZE * (object - 1);
        }

        int parent(int object) {
            return memory.byteAt(placeOf(object) + PARENT);
        }

        int sibling(int object) {
            return memory.byteAt(placeOf(object) + SIBLING);
        }

        int child(int object) {
            return memory.byteAt(placeOf(object) + CHILD);
        }

        private int attributePlace(int object, int attribute) {
            int place = placeOf(object);
            if (attribute > HIGHEST_ATTRIBUTE) {
                throw new IllegalArgumentException();
            }
            return place + attribute / 8;
        }

        boolean hasAttribute(int object, int attribute) {
            int bits = memory.byteAt(attributePlace(object, attribute));
            return (bits & (128 >> (attribute % 8))) != 0;
        }

        void setAttribute(int object, int attribute, boolean on) {
            int place = attributePlace(object, attribute);
            int bits = memory.byteAt(place);
            int bit = 128 >> (attribute % 8);
            memory.writeByte(place, on ? bits | bit : bits & ~bit);
        }

        void takeFromParent(int object) {
            int place = placeOf(object);
            int parent = memory.byteAt(place + PARENT);
            if (parent == 0) {
                return;
            }
            int sibling = memory.byteAt(place + SIBLING);
            memory.writeByte(linkTo(object, parent), sibling);
            memory.writeByte(place + PARENT, 0);
            memory.writeByte(place + SIBLING, 0);
        }

        /** The place of the byte that leads to an object: its parent's child or a sibling. */
        private int linkTo(int object, int parent) {
            int link = placeOf(parent) + CHILD;
            for (int i = 0; i < MOST_OBJECTS; i++) {
                int next = memory.byteAt(link);
                if (next == object) {
                    return link;
                }
                link = placeOf(next) + SIBLING;
            }
            throw new IllegalArgumentException();
        }

        void putInto(int object, int parent) {
            int place = placeOf(object);
            int parentPlace = placeOf(parent);
            takeFromParent(object);
            memory.writeByte(place + PARENT, parent);
            memory.writeByte(place + SIBLING, memory.byteAt(parentPlace + CHILD));
            memory.writeByte(parentPlace + CHILD, object);
        }

        /** The place of the byte that counts the words of an object's name; properties come behind. */
        int namePlace(int object) {
            return memory.wordAt(placeOf(object) + DESCRIPTION);
        }

        int properties(int object) {
            int name = memory.wordAt(placeOf(object) + DESCRIPTION);
            return name + 1 + 2 * memory.byteAt(name);
        }

        /** The place of a property's bytes, 0 for none. */
        int propertyPlace(int properties, int number) {
            int at = properties;
            for (int i = 0; i < Memory.SIZE; i++) {
                int head = memory.byteAt(at);
                if (head == 0) {
                    return 0;
                }
                if ((head & 31) == number) {
                    return at + 1;
                }
                at += 1 + lengthIn(head);
            }
            throw new IllegalArgumentException();
        }

        private static int lengthIn(int head) {
            return head / 32 + 1;
        }

        int propertyLength(int place) {
            return lengthIn(memory.byteAt(place - 1));
        }

        int propertyValue(int properties, int number) {
            int place = propertyPlace(properties, number);
            if (place == 0) {
                return defaultOf(number);
            }
            int length = propertyLength(place);
            if (length > 2) {
                throw new IllegalArgumentException();
            }
            return length == 1 ? memory.byteAt(place) : memory.wordAt(place);
        }

        private int defaultOf(int number) {
            if (number < 1 || number > DEFAULTS) {
                throw new IllegalArgumentException();
            }
            return memory.wordAt(memory.wordAt(Memory.OBJECTS) + 2 * (number - 1));
        }

        void setProperty(int properties, int number, int value) {
            int place = propertyPlace(properties, number);
            int length = place == 0 ? 0 : propertyLength(place);
            if (length == 1) {
                memory.writeByte(place, value);
            } else if (length == 2) {
                memory.writeWord(place, value);
            } else {
                throw new IllegalArgumentException();
            }
        }

        int propertyBehind(int properties, int number) {
            if (number == 0) {
                return memory.byteAt(properties) & 31;
            }
            int place = propertyPlace(properties, number);
            if (place == 0) {
                throw new IllegalArgumentException();
            }
            return memory.byteAt(place + propertyLength(place)) & 31;
        }
    }

    /** The line that is being typed, and the one that was entered and waits for a READ. */
    private static final class Line {
        static final int MOST = 24;

        private final int[] typed = new int[MOST];
        int typedLength;
        final int[] entered = new int[MOST];
        int enteredLength;
        boolean isEntered;

        void clear() {
            typedLength = 0;
            isEntered = false;
        }

        void add(int character) {
            if (typedLength < MOST) {
                typed[typedLength] = character;
                typedLength++;
            }
        }

        void finish() {
            for (int i = 0; i < typedLength; i++) {
                int character = typed[i];
                boolean capital = character >= 'A' && character <= 'Z';
                entered[i] = capital ? character - 'A' + 'a' : character;
            }
            enteredLength = typedLength;
            typedLength = 0;
            isEntered = true;
        }
    }

    private static final class Dictionary {
        private static final int SHORTEST_ENTRY = 5;
        private static final int LETTERS = 6;
        private static final int SHIFT = 5;
        private static final int SPACE = 32;

        private final Memory memory;
        final int[] starts = new int[Line.MOST];
        final int[] lengths = new int[Line.MOST];
        int words;
        private final int[] letters = new int[LETTERS];
        private int letterCount;

        Dictionary(Memory memory) {
            this.memory = memory;
        }

        void split(int[] characters, int length) {
            words = 0;
            int start = 0;
            for (int i = 0; i < length; i++) {
                boolean space = characters[i] == SPACE;
                if (space || isSeparator(characters[i])) {
                    addWord(start, i);
                    addWord(i, space ? i : i + 1);
                    start = i + 1;
                }
            }
            addWord(start, length);
        }

        private void addWord(int start, int end) {
            if (start < end && words < Line.MOST) {
                starts[words] = start;
                lengths[words] = end - start;
                words++;
            }
        }

        private boolean isSeparator(int character) {
            int place = memory.wordAt(Memory.DICTIONARY);
            int count = memory.byteAt(place);
            for (int i = 1; i <= count; i++) {
                if (memory.byteAt(place + i) == character) {
                    return true;
                }
            }
            return false;
        }

        /** The place of the entry of a word that split has found, 0 for none. */
        int entryOf(int[] characters, int word) {
            pack(characters, starts[word], lengths[word]);
            int first = packedWord(0);
            int second = packedWord(3) | 32768;
            int place = memory.wordAt(Memory.DICTIONARY);
            place += 1 + memory.byteAt(place);
            int size = memory.byteAt(place);
            if (size < SHORTEST_ENTRY) {
                throw new IllegalArgumentException();
            }
            int count = memory.wordAt(place + 1);
            int entry = place + 3;
            for (int i = 0; i < count; i++) {
                int firstThere = memory.wordAt(entry);
                int secondThere = memory.wordAt(entry + 2);
                if (firstThere == first && secondThere == second) {
                    return entry;
                }
                entry += size;
            }
            return 0;
        }

        private void pack(int[] characters, int start, int length) {
            letterCount = 0;
            for (int i = start; i < start + length; i++) {
                addCharacter(characters[i]);
            }
            for (int i = letterCount; i < LETTERS; i++) {
                letters[i] = SHIFT;
            }
        }

        private void addCharacter(int character) {
            int sign = Printer.SIGNS.indexOf((char) character);
            if (character >= 'a' && character <= 'z') {
                addLetter(character - 'a' + 6);
            } else if (sign >= 0) {
                addLetter(SHIFT);
                addLetter(sign + Printer.FIRST_SIGN);
            } else {
                addLetter(SHIFT);
                addLetter(6);
                addLetter(character / 32);
                addLetter(character % 32);
            }
        }

        private void addLetter(int letter) {
            if (letterCount < LETTERS) {
                letters[letterCount] = letter;
                letterCount++;
            }
        }

        private int packedWord(int from) {
            return letters[from] << 10 | letters[from + 1] << 5 | letters[from + 2];
        }
    }

    /** Reads an instruction up to where it can be done; its variables are taken on the way. */
    private static final class Instruction {
        static final int NONE = 0;
        static final int FIRST = 1;
        static final int SECOND = 2;
        static final int MANY = 3;
        static final int READ = 4;

        private static final int BYTE = 1;
        private static final int VARIABLE = 2;
        private static final int ABSENT = 3;

        /* What an operation has: 0 it is not in its list, otherwise 1, with these added. */
        private static final int GIVES = 2;
        private static final int BRANCHES = 4;
        private static final int[] FORMS_OF_NONE = {1, 1, 1, 1, 1, 5, 5, 0, 1, 1, 1, 1, 0, 0, 0, 0};
        private static final int[] FORMS_OF_FIRST = {5, 7, 7, 3, 3, 1, 1, 1, 0, 1, 1, 1, 1, 1, 3, 3};
        private static final int[] FORMS_OF_SECOND = {
            0, 5, 5, 5, 5, 5, 5, 5, 3, 3, 5, 1, 1, 1, 1, 3,
            3, 3, 3, 3, 3, 3, 3, 3, 3, 0, 0, 0, 0, 0, 0, 0};
        private static final int[] FORMS_OF_MANY = {3, 1, 1, 1, 1, 1, 1, 3, 1, 1};
        private static final int[] NEEDS_OF_MANY = {1, 3, 3, 3, 2, 1, 1, 1, 1, 1};

        private final Memory memory;
        private final Variables variables;
        final int[] numbers = new int[4];
        int count;
        int list;
        int operation;
        int behind;
        int result;
        boolean branchesWhen;
        int offset;
        private int form;

        Instruction(Memory memory, Variables variables) {
            this.memory = memory;
            this.variables = variables;
        }

        boolean gives() {
            return (form & GIVES) != 0;
        }

        boolean branches() {
            return (form & BRANCHES) != 0;
        }

        void decode(int place, boolean lineIsEntered) {
            behind = place;
            int types = decodeHead();
            if (list == MANY && operation == READ && !lineIsEntered) {
                throw new UnsupportedOperationException();
            }
            readNumbers(types);
            form = formOf();
            if (form == 0 || count < needed()) {
                throw new IllegalArgumentException();
            }
            if (gives()) {
                result = nextByte();
            }
            if (branches()) {
                readBranch();
            }
        }

        /** Answers the types of the numbers as the byte that the longest form has for them. */
        private int decodeHead() {
            int b = nextByte();
            if (b < 128) {
                list = SECOND;
                operation = b % 32;
                int first = (b & 64) != 0 ? VARIABLE : BYTE;
                int second = (b & 32) != 0 ? VARIABLE : BYTE;
                return first << 6 | second << 4 | 15;
            }
            if (b < 192) {
                int only = (b >> 4) & 3;
                list = only == ABSENT ? NONE : FIRST;
                operation = b % 16;
                return only << 6 | 63;
            }
            list = b < 224 ? SECOND : MANY;
            operation = b % 32;
            return nextByte();
        }

        private void readNumbers(int types) {
            count = 0;
            for (int i = 0; i < numbers.length; i++) {
                int kind = (types >> (6 - 2 * i)) & 3;
                if (kind == ABSENT) {
                    return;
                }
                numbers[i] = readNumber(kind);
                count++;
            }
        }

        private int readNumber(int kind) {
            if (kind == VARIABLE) {
                return variables.read(nextByte(), false);
            }
            if (kind == BYTE) {
                return nextByte();
            }
            int word = memory.wordAt(behind);
            behind += 2;
            return word;
        }

        private int formOf() {
            if (list == NONE) {
                return FORMS_OF_NONE[operation];
            }
            if (list == FIRST) {
                return FORMS_OF_FIRST[operation];
            }
            if (list == SECOND) {
                return FORMS_OF_SECOND[operation];
            }
            return operation < FORMS_OF_MANY.length ? FORMS_OF_MANY[operation] : 0;
        }

        private int needed() {
            return list == MANY ? NEEDS_OF_MANY[operation] : list;
        }

        private void readBranch() {
            int b = nextByte();
            branchesWhen = (b & 128) != 0;
            offset = b & 63;
            if ((b & 64) == 0) {
                offset = offset << 8 | nextByte();
                if (offset >= 8192) {
                    offset -= 16384;
                }
            }
        }

        private int nextByte() {
            int b = memory.byteAt(behind);
            behind++;
            return b;
        }
    }

    /** What was put aside by SAVE. */
    private static final class Aside {
        boolean isThere;
        private final Memory memory = new Memory();
        private final Routines routines = new Routines();
        private int next;

        void keep(Memory fromMemory, Routines fromRoutines, int goesOn) {
            memory.copyFrom(fromMemory);
            routines.copyFrom(fromRoutines);
            next = goesOn;
            isThere = true;
        }

        /** Answers where it goes on. */
        int bringBack(Memory toMemory, Routines toRoutines) {
            toMemory.copyFrom(memory);
            toRoutines.copyFrom(routines);
            return next;
        }
    }

    private static final class Engine {
        static final int DONE = 0;
        static final int BAD = 1;
        static final int STACK = 2;
        static final int DIVISION = 3;
        static final int WAITING = 4;
        static final int ENDED = 5;
        private static final int NOWHERE = -1;

        private final Memory memory;
        private final Line line;
        private final Routines routines;
        private final Printer printer;
        private final Variables variables;
        private final Tree tree;
        private final Dictionary dictionary;
        private final Instruction instruction;
        private final Aside aside = new Aside();
        private final int[] newLocals = new int[Routines.MOST_LOCALS];
        boolean canGoOn;
        int current = NOWHERE;
        int stepsDone;
        private int next;
        private int random;

        Engine(Memory memory, Line line, Routines routines, Printer printer) {
            Variables newVariables = new Variables(memory, routines);
            this.memory = memory;
            this.line = line;
            this.routines = routines;
            this.printer = printer;
            variables = newVariables;
            tree = new Tree(memory);
            dictionary = new Dictionary(memory);
            instruction = new Instruction(memory, newVariables);
        }

        void startAt(int start) {
            current = start;
            canGoOn = true;
            stepsDone = 0;
            random = 0;
            printer.count = 0;
            aside.isThere = false;
            routines.clear();
            line.clear();
        }

        /** Answers DONE, ENDED or the trouble; with trouble the current place stays. */
        int tryStep() {
            int[] numbers = instruction.numbers;
            try {
                instruction.decode(current, line.isEntered);
                next = instruction.behind;
                switch (instruction.list) {
                    case Instruction.NONE: doNone(); break;
                    case Instruction.FIRST: doFirst(numbers[0]); break;
                    case Instruction.SECOND: doSecond(numbers[0], numbers[1]); break;
                    default: doMany(numbers[0], numbers[1], numbers[2]); break;
                }
            } catch (IllegalArgumentException e) {
                canGoOn = false;
                return BAD;
            } catch (IllegalStateException e) {
                canGoOn = false;
                return STACK;
            } catch (ArithmeticException e) {
                canGoOn = false;
                return DIVISION;
            } catch (UnsupportedOperationException e) {
                return WAITING;
            }
            current = next;
            stepsDone++;
            return canGoOn ? DONE : ENDED;
        }

        private void doNone() {
            switch (instruction.operation) {
                case 0: returnWith(1); break;
                case 1: returnWith(0); break;
                case 2: next = printer.putText(next); break;
                case 3:
                    printer.putText(next);
                    printer.put(Printer.NEW_LINE);
                    returnWith(1);
                    break;
                case 5:
                    // The branch comes first, since it may return, and that is put aside too.
                    branch(true);
                    aside.keep(memory, routines, next);
                    break;
                case 6:
                    if (aside.isThere) {
                        next = aside.bringBack(memory, routines);
                    } else {
                        branch(false);
                    }
                    break;
                case 8: returnWith(routines.pop()); break;
                case 9: routines.pop(); break;
                case 10: canGoOn = false; break;
                case 11: printer.put(Printer.NEW_LINE); break;
                default: break;
            }
        }

        private void doFirst(int x) {
            if (instruction.gives()) {
                int value = firstValue(x);
                variables.write(instruction.result, value, false);
                if (instruction.branches()) {
                    branch(value != 0);
                }
                return;
            }
            switch (instruction.operation) {
                case 0: branch(x == 0); break;
                case 5: changedBy(x, 1); break;
                case 6: changedBy(x, -1); break;
                case 7: printer.putText(x); break;
                case 9: tree.takeFromParent(x); break;
                case 10: putName(x); break;
                case 11: returnWith(x); break;
                case 12: next += (short) x - 2; break;
                case 13: printer.putText(2 * x); break;
                default: break;
            }
        }

        private int firstValue(int x) {
            switch (instruction.operation) {
                case 1: return tree.sibling(x);
                case 2: return tree.child(x);
                case 3: return tree.parent(x);
                case 4: return tree.propertyLength(x);
                case 14: return variables.read(x, true);
                default: return ~x;
            }
        }

        private void doSecond(int x, int y) {
            if (instruction.branches()) {
                branch(secondAsks(x, y));
                return;
            }
            if (instruction.gives()) {
                variables.write(instruction.result, secondValue(x, y), false);
                return;
            }
            switch (instruction.operation) {
                case 11: tree.setAttribute(x, y, true); break;
                case 12: tree.setAttribute(x, y, false); break;
                case 13: variables.write(x, y, true); break;
                case 14: tree.putInto(x, y); break;
                default: break;
            }
        }

        private boolean secondAsks(int x, int y) {
            switch (instruction.operation) {
                case 1: return isAmongOthers(x);
                case 2: return (short) x < (short) y;
                case 3: return (short) x > (short) y;
                case 4: return changedBy(x, -1) < (short) y;
                case 5: return changedBy(x, 1) > (short) y;
                case 6: return tree.parent(x) == y;
                case 7: return (x & y) == y;
                default: return tree.hasAttribute(x, y);
            }
        }

        private boolean isAmongOthers(int x) {
            for (int i = 1; i < instruction.count; i++) {
                if (instruction.numbers[i] == x) {
                    return true;
                }
            }
            return false;
        }

        private int changedBy(int variable, int difference) {
            short value = (short) (variables.read(variable, true) + difference);
            variables.write(variable, value, true);
            return value;
        }

        private int secondValue(int x, int y) {
            switch (instruction.operation) {
                case 8: return x | y;
                case 9: return x & y;
                case 15: return memory.wordAt(x + 2 * y);
                case 16: return memory.byteAt(x + y);
                case 17: return tree.propertyValue(tree.properties(x), y);
                case 18: return tree.propertyPlace(tree.properties(x), y);
                case 19: return tree.propertyBehind(tree.properties(x), y);
                case 20: return x + y;
                case 21: return x - y;
                case 22: return (short) x * (short) y;
                case 23: return (short) x / divisor(y);
                default: return (short) x % divisor(y);
            }
        }

        private static int divisor(int y) {
            if (y == 0) {
                throw new ArithmeticException();
            }
            return (short) y;
        }

        private void doMany(int x, int y, int z) {
            switch (instruction.operation) {
                case 0: call(x); break;
                case 1: memory.writeWord(x + 2 * y, z); break;
                case 2: memory.writeByte(x + y, z); break;
                case 3: tree.setProperty(tree.properties(x), y, z); break;
                case 4: readLine(x, y); break;
                case 5: printer.put(x & 255); break;
                case 6: printer.putNumber((short) x); break;
                case 7: variables.write(instruction.result, randomNumber((short) x), false); break;
                case 8: routines.push(x); break;
                case 9: variables.write(x, routines.pop(), true); break;
                default: break;
            }
        }

        private void branch(boolean answer) {
            if (answer != instruction.branchesWhen) {
                return;
            }
            int offset = instruction.offset;
            if (offset == 0 || offset == 1) {
                returnWith(offset);
            } else {
                next += offset - 2;
            }
        }

        private void call(int x) {
            if (x == 0) {
                variables.write(instruction.result, 0, false);
                return;
            }
            routines.demandRoom();
            int at = 2 * x;
            int count = memory.byteAt(at);
            if (count > Routines.MOST_LOCALS) {
                throw new IllegalArgumentException();
            }
            at++;
            for (int i = 0; i < count; i++) {
                int own = memory.wordAt(at);
                newLocals[i] = i + 1 < instruction.count ? instruction.numbers[i + 1] : own;
                at += 2;
            }
            routines.open(newLocals, count, next, instruction.result);
            next = at;
        }

        private void returnWith(int value) {
            int result = routines.result();
            next = routines.behind();
            routines.close();
            variables.write(result, value, false);
        }

        private void putName(int object) {
            int place = tree.namePlace(object);
            if (memory.byteAt(place) > 0) {
                printer.putText(place + 1);
            }
        }

        private int randomNumber(int x) {
            if (x > 0) {
                random = (13 * random + 7) % 1024;
                return 1 + random % x;
            }
            random = -x % 1024;
            return 0;
        }

        private void readLine(int x, int y) {
            int length = Math.min(memory.byteAt(x), line.enteredLength);
            for (int i = 0; i < length; i++) {
                memory.writeByte(x + 1 + i, line.entered[i]);
            }
            memory.writeByte(x + 1 + length, 0);
            line.isEntered = false;
            int most = memory.byteAt(y);
            dictionary.split(line.entered, length);
            int words = Math.min(most, dictionary.words);
            memory.writeByte(y + 1, words);
            for (int i = 0; i < words; i++) {
                int at = y + 2 + 4 * i;
                memory.writeWord(at, dictionary.entryOf(line.entered, i));
                memory.writeByte(at + 2, dictionary.lengths[i]);
                memory.writeByte(at + 3, dictionary.starts[i] + 1);
            }
        }
    }
}
