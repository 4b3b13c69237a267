import java.util.ArrayDeque;
import java.util.List;
import java.util.Random;
import java.util.concurrent.Callable;

/** Long runs of chosen calls, the same on TabText and on the Model; the seeds are fixed. */
final class RandomTest {
    private static final int RUNS = 400;
    private static final int CALLS = 512;
    private static final String[] CELLS = {
        "", " ", "   ", "a", "ab", "Ab", "abc", "b", "x  y", "a   b  c", "1", "1.5", "-1.50", "22", "007",
        "-0", "0.0", "123456789", "-123456789.1234", "1234567890", "1.12345", "1.", ".5", "--1", "-",
        "+1", "1,5", "(1)", "50%", "a:b", "abcdefghijklmnop", "                ", "12.25", "3.1234", "9"
    };

    // Texts that are full in one way, so that the calls after them come to the bounds.
    private static final String[] FULL = {
        "||||/".repeat(23) + "||||", "|||||||//".repeat(11) + "|||||||/", "|||||||/".repeat(14) + "|||||||",
        "abcdefghijklmnop|".repeat(7), "0123456789      /".repeat(7), "/".repeat(23), "1|/".repeat(23) + "22.5|"
    };

    private final Random random;
    private final Model model = new Model();
    private final TabText text = new TabText();
    private final ArrayDeque<String> latest = new ArrayDeque<>();
    private int calls = 0;

    private RandomTest(long seed) {
        random = new Random(seed);
    }

    public static void main(String[] args) {
        int wrong = 0;
        int most = 0;
        for (int run = 0; run < RUNS; run++) {
            RandomTest test = new RandomTest(run);
            if (run % 4 == 1) {
                test.start(FULL[run / 4 % FULL.length]);
            }
            // Some runs go on for longer, because the machine must not throw after the 512th call.
            String fault = test.run(run % 20 == 0 ? 4 * CALLS : CALLS);
            if (fault != null) {
                wrong++;
                System.out.println("seed " + run + ": " + fault);
            }
            most = Math.max(most, test.text.count(1));
        }
        System.out.println("RandomTest: " + RUNS + " runs, " + wrong + " of them wrong, most cells " + most);
        if (wrong != 0) {
            System.exit(1);
        }
    }

    private void start(String full) {
        for (char c : full.toCharArray()) {
            text.append(c);
            model.append(c);
        }
        text.load();
        model.load();
        calls = full.length() + 1;
    }

    private String run(int limit) {
        while (calls < limit) {
            String fault = random.nextInt(4) == 0 ? fillBuffer() : step();
            if (fault != null) {
                return fault;
            }
        }
        return null;
    }

    private String compare(String call, Callable<?> onText, Callable<?> onModel) {
        calls++;
        latest.add(call);
        if (latest.size() > 12) {
            latest.removeFirst();
        }
        String got = Check.answer(onText);
        String want = Check.answer(onModel);
        if (!got.equals(want)) {
            return latest + " answered " + got + ", due is " + want;
        }
        long digest = text.digest();
        if (digest != model.digest()) {
            return latest + " answered " + got + ", but then the digests differ";
        }
        return null;
    }

    private String fillBuffer() {
        if (model.bufferLength() > 0 && random.nextInt(3) > 0) {
            String fault = compare("clearInput()", text::clearInput, model::clearInput);
            if (fault != null) {
                return fault;
            }
        }
        for (char c : wanted().toCharArray()) {
            String fault = compare("append(" + (int) c + ")", () -> text.append(c), () -> model.append(c));
            if (fault != null) {
                return fault;
            }
        }
        return null;
    }

    private String wanted() {
        int kind = random.nextInt(3);
        int lines = kind == 2 ? 1 + random.nextInt(random.nextInt(10) == 0 ? 26 : 5) : 1;
        StringBuilder wanted = new StringBuilder();
        for (int line = 0; line < lines; line++) {
            wanted.append(line > 0 ? "/" : "");
            int cells = kind == 0 ? 1 : 1 + random.nextInt(random.nextInt(6) == 0 ? 10 : 4);
            for (int cell = 0; cell < cells; cell++) {
                wanted.append(cell > 0 ? "|" : "");
                wanted.append(lines > 8 ? "" : CELLS[random.nextInt(CELLS.length)]);
            }
        }
        if (random.nextInt(12) == 0) {
            wanted.insert(random.nextInt(wanted.length() + 1), (char) (31 + random.nextInt(98)));
        }
        return wanted.toString();
    }

    /** A number from 0 to below the limit, and now and then one that is just outside. */
    private int near(int limit) {
        int chosen = random.nextInt(24);
        if (chosen == 0) {
            return List.of(-1, limit, limit + 1, Integer.MAX_VALUE, Integer.MIN_VALUE).get(random.nextInt(5));
        }
        return limit <= 0 ? 0 : random.nextInt(limit);
    }

    private int code() {
        return switch (random.nextInt(8)) {
            case 0, 1 -> 9;
            case 2, 3 -> 10;
            case 4 -> random.nextInt(140) - 5;
            case 5 -> 32;
            case 6 -> '0' + random.nextInt(10);
            default -> 'a' + random.nextInt(26);
        };
    }

    private String step() {
        int line = near(model.text().size());
        boolean exists = line >= 0 && line < model.text().size();
        int cell = near(exists ? model.text().get(line).size() : 8);
        exists = exists && cell >= 0 && cell < model.text().get(line).size();
        int offset = near(exists ? model.text().get(line).get(cell).length() + 1 : 3);
        int block = near(model.blockCount());
        return random.nextInt(2) == 0 ? edit(line, cell, offset, block) : look(line, cell, offset, block);
    }

    private String edit(int line, int cell, int offset, int block) {
        int code = code();
        int to = near(model.text().size());
        int skip = random.nextInt(3) == 0 ? near(4) : 0;
        boolean down = random.nextBoolean();
        int gap = near(5);
        switch (random.nextInt(16)) {
            case 0, 1, 2:
                return compare("type(" + line + ", " + cell + ", " + offset + ", " + code + ")",
                        () -> text.type(line, cell, offset, code), () -> model.type(line, cell, offset, code));
            case 3:
                return compare("erase(" + line + ", " + cell + ", " + offset + ")",
                        () -> text.erase(line, cell, offset), () -> model.erase(line, cell, offset));
            case 4:
                return compare("setCell(" + line + ", " + cell + ")",
                        () -> text.setCell(line, cell), () -> model.setCell(line, cell));
            case 5, 6:
                return compare("insertLine(" + line + ")",
                        () -> text.insertLine(line), () -> model.insertLine(line));
            case 7:
                return compare("removeLine(" + line + ")",
                        () -> text.removeLine(line), () -> model.removeLine(line));
            case 8:
                return compare("moveLine(" + line + ", " + to + ")",
                        () -> text.moveLine(line, to), () -> model.moveLine(line, to));
            case 9, 10:
                return compare("sort(" + block + ", " + skip + ", " + down + ")",
                        () -> text.sort(block, skip, down), () -> model.sort(block, skip, down));
            case 11:
                return compare("insertColumn(" + block + ")",
                        () -> text.insertColumn(block), () -> model.insertColumn(block));
            case 12:
                return random.nextInt(3) > 0 ? null : compare("removeColumn(" + block + ")",
                        () -> text.removeColumn(block), () -> model.removeColumn(block));
            case 13:
                return compare("retab(" + line + ", " + gap + ")",
                        () -> text.retab(line, gap), () -> model.retab(line, gap));
            case 14:
                return random.nextInt(4) > 0 ? null : compare("load()", text::load, model::load);
            default:
                return undoOrRedo();
        }
    }

    private String undoOrRedo() {
        String fault = null;
        boolean back = random.nextBoolean();
        for (int i = random.nextInt(random.nextInt(5) == 0 ? 13 : 3); i >= 0 && fault == null; i--) {
            fault = back
                    ? compare("undo()", text::undo, model::undo)
                    : compare("redo()", text::redo, model::redo);
        }
        return fault;
    }

    private String look(int line, int cell, int offset, int block) {
        int column = near(60);
        int what = near(9);
        int code = code();
        switch (random.nextInt(14)) {
            case 0:
                int alignment = near(4);
                int which = near(7);
                return compare("setAlignment(" + which + ", " + alignment + ")",
                        () -> text.setAlignment(which, alignment), () -> model.setAlignment(which, alignment));
            case 1:
                int part = near(3);
                int value = near(random.nextInt(4) == 0 ? 22 : 9);
                return compare("setSpacing(" + part + ", " + value + ")",
                        () -> text.setSpacing(part, value), () -> model.setSpacing(part, value));
            case 2:
                return compare("count(" + what + ")", () -> text.count(what), () -> model.count(what));
            case 3:
                int fact = near(4);
                return compare("line(" + line + ", " + fact + ")",
                        () -> text.line(line, fact), () -> model.line(line, fact));
            case 4:
                int property = near(5);
                return compare("cell(" + line + ", " + cell + ", " + property + ")",
                        () -> text.cell(line, cell, property), () -> model.cell(line, cell, property));
            case 5:
                return compare("letter(" + line + ", " + cell + ", " + offset + ")",
                        () -> text.letter(line, cell, offset), () -> model.letter(line, cell, offset));
            case 6:
                return compare("shown(" + line + ", " + column + ")",
                        () -> text.shown(line, column), () -> model.shown(line, column));
            case 7:
                return compare("hit(" + line + ", " + column + ")",
                        () -> text.hit(line, column), () -> model.hit(line, column));
            case 8:
                return compare("find(" + line + ", " + cell + ")",
                        () -> text.find(line, cell), () -> model.find(line, cell));
            case 9:
                return compare("block(" + block + ", " + what + ")",
                        () -> text.block(block, what), () -> model.block(block, what));
            case 10:
                String fault = compare("sum(" + block + ")", () -> text.sum(block), () -> model.sum(block));
                return fault != null ? fault
                        : compare("mean(" + block + ")", () -> text.mean(block), () -> model.mean(block));
            case 11:
                return compare("touched(" + line + ")", () -> text.touched(line), () -> model.touched(line));
            case 12:
                return compare("firstError(" + (what - 3) + ")",
                        () -> text.firstError(what - 3), () -> model.firstError(what - 3));
            default:
                return compare("ifTyped(" + line + ", " + cell + ", " + offset + ", " + code + ")",
                        () -> text.ifTyped(line, cell, offset, code),
                        () -> model.ifTyped(line, cell, offset, code));
        }
    }
}
