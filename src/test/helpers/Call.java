import java.util.ArrayList;
import java.util.List;

/** One call with its arguments, written as in a program, so that it can be made on several objects. */
record Call(String name, int... args) {
    /** "arrow(0, 1)", "thing(true)", "above()" */
    static Call parse(String text) {
        int open = text.indexOf('(');
        String inside = text.substring(open + 1, text.length() - 1);
        String[] words = inside.isEmpty() ? new String[0] : inside.split(", ");
        int[] args = new int[words.length];
        for (int i = 0; i < args.length; i++) {
            args[i] = words[i].equals("true") ? 1 : words[i].equals("false") ? 0 : Integer.parseInt(words[i]);
        }
        return new Call(text.substring(0, open), args);
    }

    static List<Call> all(String... texts) {
        List<Call> calls = new ArrayList<>();
        for (String text : texts) {
            calls.add(parse(text));
        }
        return calls;
    }

    static Call of(String name, int... args) {
        return new Call(name, args);
    }

    String text() {
        StringBuilder text = new StringBuilder(name + "(");
        for (int i = 0; i < args.length; i++) {
            text.append(i == 0 ? "" : ", ").append(args[i]);
        }
        return text.append(")").toString();
    }

    boolean is(String method) {
        return name.equals(method);
    }

    /** What it answers; true counts 1, false 0. */
    long on(MadeItSo x) {
        return switch (name) {
            case "thing" -> x.thing(args[0] == 1);
            case "booked" -> x.booked(args[0], args[1]);
            case "told" -> x.told(args[0], args[1]);
            case "weight" -> x.weight(args[0], args[1]);
            case "chance" -> x.chance(args[0], args[1], args[2]);
            case "above" -> x.above();
            case "below" -> x.below();
            case "least" -> x.least(args[0], args[1]);
            case "leastAt" -> x.leastAt(args[0], args[1], args[2]);
            case "agrees" -> x.agrees(args[0], args[1], args[2], args[3], args[4]);
            case "alike" -> x.alike();
            case "otherwise" -> x.otherwise(args[0], args[1], args[2]);
            case "draw" -> x.draw(args[0], args[1]);
            case "count" -> x.count(args[0]);
            default -> whether(x) ? 1 : 0;
        };
    }

    private boolean whether(MadeItSo x) {
        return switch (name) {
            case "arrow" -> x.arrow(args[0], args[1]);
            case "cut" -> x.cut(args[0], args[1]);
            case "turn" -> x.turn(args[0], args[1]);
            case "book" -> x.book(args[0], args[1], args[2]);
            case "bars" -> x.bars(args[0], args[1], args[2]);
            case "fit" -> x.fit(args[0], args[1], args[2]);
            case "fixed" -> x.fixed(args[0], args[1]);
            default -> throw new IllegalArgumentException(text());
        };
    }
}
