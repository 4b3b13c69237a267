import java.util.ArrayDeque;
import java.util.ArrayList;
import java.util.Comparator;
import java.util.HashMap;
import java.util.List;
import java.util.Map;
import java.math.BigDecimal;
import java.util.regex.Pattern;

/**
 * The document once more, written as plainly as its words with the Java library: lines are lists of
 * strings, nothing is kept between calls but the state, and each answer is found anew. It shares no
 * code with TabText, so that RandomTest can hold one against the other.
 */
final class Model {
    private static final String SIGNS =
            "abcdefghijklmnopqrstuvwxyzABCDEFGHIJKLMNOPQRSTUVWXYZ0123456789 .,-+:%()";

    private static final Pattern NUMBER = Pattern.compile("-?[0-9]{1,9}(\\.[0-9]{1,4})?");

    private record Block(int column, int first, int last) { }

    private List<List<String>> text = new ArrayList<>();
    private final ArrayDeque<List<List<String>>> forUndo = new ArrayDeque<>();
    private final ArrayDeque<List<List<String>>> forRedo = new ArrayDeque<>();
    private String buffer = "";
    private final int[] alignments = {3, 3, 3, 3, 3, 3, 3};
    private final int[] spacing = {2, 0, 1};
    // While digest looks at everything, the blocks and their widths are found once: it would take minutes else.
    private List<Block> knownBlocks = null;
    private final Map<Block, Integer> knownWidths = new HashMap<>();

    Model() {
        text.add(new ArrayList<>(List.of("")));
    }

    int append(int code) {
        argument(code >= 32 && code <= 126);
        state(buffer.length() < 120);
        buffer += (char) code;
        return buffer.length();
    }

    int clearInput() {
        int had = buffer.length();
        buffer = "";
        return had;
    }

    int firstError(int kind) {
        argument(kind >= 0 && kind <= 2);
        for (int i = 0; i < buffer.length(); i++) {
            if (!isRight(buffer.substring(0, i + 1), kind)) {
                return i;
            }
        }
        return buffer.length();
    }

    private static boolean isRight(String s, int kind) {
        String[] lines = kind == 2 ? s.split("/", -1) : new String[] {s};
        if (lines.length > 24) {
            return false;
        }
        for (String line : lines) {
            String[] cells = kind >= 1 ? line.split("\\|", -1) : new String[] {line};
            if (cells.length > 8) {
                return false;
            }
            for (String cell : cells) {
                if (cell.length() > 16 || !cell.chars().allMatch(c -> SIGNS.indexOf(c) >= 0)) {
                    return false;
                }
            }
        }
        return true;
    }

    int load() {
        state(isRight(buffer, 2));
        save();
        text = new ArrayList<>();
        for (String line : buffer.split("/", -1)) {
            text.add(new ArrayList<>(List.of(line.split("\\|", -1))));
        }
        buffer = "";
        return text.size();
    }

    int type(int line, int cell, int offset, int code) {
        checkTyped(line, cell, offset, code);
        save();
        return typeNow(line, cell, offset, code);
    }

    private void checkTyped(int line, int cell, int offset, int code) {
        index(hasCell(line, cell) && offset >= 0 && offset <= text.get(line).get(cell).length());
        argument(code == 9 || code == 10 || SIGNS.indexOf(code) >= 0);
        if (code == 9) {
            state(text.get(line).size() < 8);
        } else if (code == 10) {
            state(text.size() < 24);
        } else {
            state(text.get(line).get(cell).length() < 16);
        }
    }

    private int typeNow(int line, int cell, int offset, int code) {
        List<String> row = text.get(line);
        String before = row.get(cell).substring(0, offset);
        String behind = row.get(cell).substring(offset);
        if (code == 9) {
            row.set(cell, before);
            row.add(cell + 1, behind);
            return row.size();
        }
        if (code == 10) {
            List<String> next = new ArrayList<>(row.subList(cell + 1, row.size()));
            next.add(0, behind);
            List<String> stays = new ArrayList<>(row.subList(0, cell));
            stays.add(before);
            text.set(line, stays);
            text.add(line + 1, next);
            return text.size();
        }
        row.set(cell, before + (char) code + behind);
        return row.get(cell).length();
    }

    int erase(int line, int cell, int offset) {
        index(hasCell(line, cell) && offset >= 0 && offset <= text.get(line).get(cell).length());
        String s = text.get(line).get(cell);
        if (offset < s.length()) {
            save();
            text.get(line).set(cell, s.substring(0, offset) + s.substring(offset + 1));
            return s.charAt(offset);
        }
        if (cell < text.get(line).size() - 1) {
            String joined = s + text.get(line).get(cell + 1);
            state(joined.length() <= 16);
            save();
            text.get(line).set(cell, joined);
            text.get(line).remove(cell + 1);
            return 9;
        }
        state(line < text.size() - 1);
        String joined = s + text.get(line + 1).get(0);
        state(joined.length() <= 16);
        state(text.get(line).size() + text.get(line + 1).size() - 1 <= 8);
        save();
        List<String> next = text.remove(line + 1);
        text.get(line).set(cell, joined);
        text.get(line).addAll(next.subList(1, next.size()));
        return 10;
    }

    int setCell(int line, int cell) {
        index(hasCell(line, cell));
        state(isRight(buffer, 0));
        save();
        int had = text.get(line).get(cell).length();
        text.get(line).set(cell, buffer);
        buffer = "";
        return had;
    }

    int insertLine(int line) {
        index(line >= 0 && line <= text.size());
        state(isRight(buffer, 1));
        state(text.size() < 24);
        save();
        text.add(line, new ArrayList<>(List.of(buffer.split("\\|", -1))));
        buffer = "";
        return text.size();
    }

    int removeLine(int line) {
        index(hasLine(line));
        state(text.size() > 1);
        save();
        text.remove(line);
        return text.size();
    }

    int moveLine(int from, int to) {
        index(hasLine(from) && hasLine(to));
        save();
        text.add(to, text.remove(from));
        return blocks().size();
    }

    int sort(int block, int skip, boolean descending) {
        Block b = blockAt(block);
        argument(skip >= 0 && skip <= b.last - b.first + 1);
        save();
        List<List<String>> before = new ArrayList<>(text);
        Comparator<List<String>> byKind =
                Comparator.comparing(row -> List.of(2, 0, 1).get(kind(row.get(b.column))));
        Comparator<List<String>> byContent = (one, two) -> {
            String s = one.get(b.column);
            String t = two.get(b.column);
            if (kind(s) != kind(t) || kind(s) == 0) {
                return 0;
            }
            int c = kind(s) == 1 ? new BigDecimal(s).compareTo(new BigDecimal(t)) : s.compareTo(t);
            return descending ? -c : c;
        };
        text.subList(b.first + skip, b.last + 1).sort(byKind.thenComparing(byContent));
        int moved = 0;
        for (int i = 0; i < text.size(); i++) {
            moved += text.get(i) == before.get(i) ? 0 : 1;
        }
        return moved;
    }

    int insertColumn(int block) {
        Block b = blockAt(block);
        state(text.subList(b.first, b.last + 1).stream().allMatch(row -> row.size() < 8));
        save();
        text.subList(b.first, b.last + 1).forEach(row -> row.add(b.column, ""));
        return b.last - b.first + 1;
    }

    int removeColumn(int block) {
        Block b = blockAt(block);
        save();
        int filled = 0;
        for (List<String> row : text.subList(b.first, b.last + 1)) {
            filled += kind(row.remove(b.column)) == 0 ? 0 : 1;
        }
        return filled;
    }

    int retab(int line, int gap) {
        index(hasLine(line));
        argument(gap >= 1 && gap <= 16);
        List<String> row = new ArrayList<>();
        for (String s : text.get(line)) {
            row.addAll(List.of(s.split(" {" + gap + ",}", -1)));
        }
        state(row.size() <= 8);
        int tabs = row.size() - text.get(line).size();
        save();
        text.set(line, row);
        return tabs;
    }

    int undo() {
        state(!forUndo.isEmpty());
        forRedo.push(text);
        text = forUndo.pop();
        return forUndo.size();
    }

    int redo() {
        state(!forRedo.isEmpty());
        forUndo.push(text);
        text = forRedo.pop();
        return forRedo.size();
    }

    int setAlignment(int column, int alignment) {
        argument(column >= 0 && column <= 6 && alignment >= 0 && alignment <= 3);
        int had = alignments[column];
        alignments[column] = alignment;
        return had;
    }

    int setSpacing(int what, int value) {
        argument(what >= 0 && what <= 2);
        argument(value >= (what == 2 ? 1 : 0) && value <= (what == 1 ? 20 : 8));
        int had = spacing[what];
        spacing[what] = value;
        return had;
    }

    int count(int what) {
        argument(what >= 0 && what <= 8);
        List<String> all = new ArrayList<>();
        text.forEach(all::addAll);
        int widest = 0;
        for (int line = 0; line < text.size(); line++) {
            widest = Math.max(widest, shownLength(line));
        }
        return List.of(
                text.size(),
                all.size(),
                String.join("", all).length(),
                blocks().size(),
                (int) all.stream().filter(s -> kind(s) == 1).count(),
                (int) all.stream().filter(s -> kind(s) == 0).count(),
                widest,
                forUndo.size(),
                forRedo.size()).get(what);
    }

    int line(int line, int what) {
        index(hasLine(line));
        argument(what >= 0 && what <= 3);
        List<String> row = text.get(line);
        StringBuilder fixed = new StringBuilder();
        for (int cell = 0; cell < row.size(); cell++) {
            fixed.append(row.get(cell));
            if (cell < row.size() - 1) {
                do {
                    fixed.append(' ');
                } while (fixed.length() % 8 != 0);
            }
        }
        return List.of(
                row.size(),
                shownLength(line),
                String.join("", row).length(),
                fixed.length()).get(what);
    }

    int cell(int line, int cell, int what) {
        index(hasCell(line, cell));
        argument(what >= 0 && what <= 4);
        String s = text.get(line).get(cell);
        return List.of(s.length(), kind(s), x(line, cell), shift(line, cell), blockOf(line, cell))
                .get(what);
    }

    int letter(int line, int cell, int offset) {
        index(hasCell(line, cell) && offset >= 0 && offset < text.get(line).get(cell).length());
        return text.get(line).get(cell).charAt(offset);
    }

    int shown(int line, int column) {
        index(hasLine(line) && column >= 0);
        int code = 32;
        for (int cell = 0; cell < text.get(line).size(); cell++) {
            String s = text.get(line).get(cell);
            int offset = column - x(line, cell) - shift(line, cell);
            if (offset >= 0 && offset < s.length() && s.charAt(offset) != ' ') {
                code = s.charAt(offset);
            }
        }
        return code;
    }

    int hit(int line, int column) {
        index(hasLine(line) && column >= 0);
        int cell = text.get(line).size() - 1;
        while (x(line, cell) > column) {
            cell--;
        }
        return cell;
    }

    int find(int line, int cell) {
        index(hasCell(line, cell));
        state(isRight(buffer, 0));
        for (int l = 0; l < text.size(); l++) {
            for (int c = 0; c < text.get(l).size(); c++) {
                boolean behind = l > line || l == line && c > cell;
                if (behind && text.get(l).get(c).equals(buffer)) {
                    return 100 * l + c;
                }
            }
        }
        return -1;
    }

    int block(int block, int what) {
        Block b = blockAt(block);
        argument(what >= 0 && what <= 7);
        return List.of(
                b.column,
                b.first,
                b.last,
                width(b),
                alignment(b),
                contentWidth(b),
                numbers(b).size(),
                alignment(b) == 3 ? fractionWidth(b) : 0).get(what);
    }

    long sum(int block) {
        BigDecimal sum = BigDecimal.ZERO;
        for (String s : numbers(blockAt(block))) {
            sum = sum.add(new BigDecimal(s));
        }
        return sum.movePointRight(4).longValueExact();
    }

    double mean(int block) {
        int numbers = numbers(blockAt(block)).size();
        return numbers == 0 ? 0.0 : (double) sum(block) / (10000 * numbers);
    }

    int touched(int line) {
        index(hasLine(line));
        int touched = 0;
        for (Block b : blocks()) {
            boolean near = false;
            for (int l = b.first; l <= b.last; l++) {
                near = near || Math.abs(l - line) <= 1;
            }
            touched += near ? 1 : 0;
        }
        return touched;
    }

    int ifTyped(int line, int cell, int offset, int code) {
        checkTyped(line, cell, offset, code);
        List<List<Integer>> before = allX();
        List<List<String>> was = copy(text);
        typeNow(line, cell, offset, code);
        List<List<Integer>> after = allX();
        text = was;
        int others = 0;
        for (int l = 0; l < Math.min(before.size(), after.size()); l++) {
            for (int c = 0; c < Math.min(before.get(l).size(), after.get(l).size()); c++) {
                others += before.get(l).get(c).equals(after.get(l).get(c)) ? 0 : 1;
            }
        }
        return others;
    }

    long digest() {
        knownBlocks = findBlocks();
        long hash = hash(allValues());
        knownBlocks = null;
        knownWidths.clear();
        return hash;
    }

    private static long hash(List<Long> values) {
        long hash = 1949;
        for (long value : values) {
            hash = 31 * hash + value;
        }
        return hash;
    }

    private List<Long> allValues() {
        List<Long> values = new ArrayList<>();
        for (int what = 0; what <= 8; what++) {
            values.add((long) count(what));
        }
        for (int alignment : alignments) {
            values.add((long) alignment);
        }
        for (int part : spacing) {
            values.add((long) part);
        }
        for (int line = 0; line < text.size(); line++) {
            for (int what = 0; what <= 3; what++) {
                values.add((long) line(line, what));
            }
            for (int cell = 0; cell < text.get(line).size(); cell++) {
                for (int what = 0; what <= 4; what++) {
                    values.add((long) cell(line, cell, what));
                }
                text.get(line).get(cell).chars().forEach(c -> values.add((long) c));
            }
        }
        for (int block = 0; block < blocks().size(); block++) {
            for (int what = 0; what <= 7; what++) {
                values.add((long) block(block, what));
            }
            values.add(sum(block));
        }
        values.add((long) buffer.length());
        buffer.chars().forEach(c -> values.add((long) c));
        return values;
    }

    // ---- the document's terms

    private List<Block> blocks() {
        return knownBlocks == null ? findBlocks() : knownBlocks;
    }

    private List<Block> findBlocks() {
        List<Block> blocks = new ArrayList<>();
        for (int column = 0; column < 7; column++) {
            int first = -1;
            for (int line = 0; line <= text.size(); line++) {
                boolean has = line < text.size() && text.get(line).size() >= column + 2;
                if (has && first < 0) {
                    first = line;
                } else if (!has && first >= 0) {
                    blocks.add(new Block(column, first, line - 1));
                    first = -1;
                }
            }
        }
        return blocks;
    }

    private Block blockAt(int block) {
        List<Block> blocks = blocks();
        index(block >= 0 && block < blocks.size());
        return blocks.get(block);
    }

    private int blockOf(int line, int cell) {
        List<Block> blocks = blocks();
        for (int i = 0; i < blocks.size(); i++) {
            Block b = blocks.get(i);
            if (b.column == cell && b.first <= line && line <= b.last) {
                return i;
            }
        }
        return -1;
    }

    static int kind(String s) {
        if (s.isBlank()) {
            return 0;
        }
        return NUMBER.matcher(s).matches() ? 1 : 2;
    }

    private List<String> cells(Block b) {
        List<String> cells = new ArrayList<>();
        for (int line = b.first; line <= b.last; line++) {
            cells.add(text.get(line).get(b.column));
        }
        return cells;
    }

    private List<String> numbers(Block b) {
        return cells(b).stream().filter(s -> kind(s) == 1).toList();
    }

    private int alignment(Block b) {
        if (alignments[b.column] != 3) {
            return alignments[b.column];
        }
        List<String> cells = cells(b);
        boolean fits = cells.size() > 1 || kind(cells.get(0)) != 2;
        for (String s : cells.subList(1, cells.size())) {
            fits = fits && kind(s) != 2;
        }
        return fits && !numbers(b).isEmpty() ? 3 : 0;
    }

    private static int wholeLength(String s) {
        return s.contains(".") ? s.indexOf('.') : s.length();
    }

    private int fractionWidth(Block b) {
        return numbers(b).stream().mapToInt(s -> s.length() - wholeLength(s)).max().orElse(0);
    }

    private int contentWidth(Block b) {
        if (alignment(b) != 3) {
            return cells(b).stream().mapToInt(String::length).max().orElse(0);
        }
        int whole = numbers(b).stream().mapToInt(Model::wholeLength).max().orElse(0);
        int others = cells(b).stream().filter(s -> kind(s) != 1).mapToInt(String::length).max().orElse(0);
        return Math.max(whole + fractionWidth(b), others);
    }

    private int width(Block b) {
        return knownBlocks == null ? findWidth(b) : knownWidths.computeIfAbsent(b, this::findWidth);
    }

    private int findWidth(Block b) {
        int width = Math.max(contentWidth(b), spacing[1]) + spacing[0];
        while (width % spacing[2] != 0) {
            width++;
        }
        return width;
    }

    private int x(int line, int cell) {
        int x = 0;
        for (int c = 0; c < cell; c++) {
            x += width(blocks().get(blockOf(line, c)));
        }
        return x;
    }

    private List<List<Integer>> allX() {
        List<List<Integer>> all = new ArrayList<>();
        for (int line = 0; line < text.size(); line++) {
            List<Integer> row = new ArrayList<>();
            for (int cell = 0; cell < text.get(line).size(); cell++) {
                row.add(x(line, cell));
            }
            all.add(row);
        }
        return all;
    }

    private int shift(int line, int cell) {
        if (blockOf(line, cell) < 0) {
            return 0;
        }
        Block b = blocks().get(blockOf(line, cell));
        String s = text.get(line).get(cell);
        int field = width(b) - spacing[0];
        return switch (alignment(b)) {
            case 0 -> 0;
            case 1 -> field - s.length();
            case 2 -> Math.floorDiv(field - s.length(), 2);
            default -> kind(s) == 1
                    ? field - fractionWidth(b) - wholeLength(s)
                    : field - s.length();
        };
    }

    private int shownLength(int line) {
        List<String> row = text.get(line);
        return x(line, row.size() - 1) + row.get(row.size() - 1).length();
    }

    // ---- state and exceptions

    private void save() {
        forUndo.push(copy(text));
        if (forUndo.size() > 10) {
            forUndo.removeLast();
        }
        forRedo.clear();
    }

    private static List<List<String>> copy(List<List<String>> text) {
        List<List<String>> copy = new ArrayList<>();
        text.forEach(row -> copy.add(new ArrayList<>(row)));
        return copy;
    }

    /** The text as the tests look at it to choose their next call. */
    List<List<String>> text() {
        return text;
    }

    int blockCount() {
        return blocks().size();
    }

    int bufferLength() {
        return buffer.length();
    }

    private boolean hasLine(int line) {
        return line >= 0 && line < text.size();
    }

    private boolean hasCell(int line, int cell) {
        return hasLine(line) && cell >= 0 && cell < text.get(line).size();
    }

    private static void index(boolean right) {
        if (!right) {
            throw new IndexOutOfBoundsException();
        }
    }

    private static void argument(boolean right) {
        if (!right) {
            throw new IllegalArgumentException();
        }
    }

    private static void state(boolean right) {
        if (!right) {
            throw new IllegalStateException();
        }
    }
}
