import java.util.ArrayList;
import java.util.List;

/** Works a TEXT out in two ways apart: a tree is grown from the TOKENS, then valued in numbers of any size. */
final class TextOracle {
    private static final long MOST = 1000000000;
    private final List<Token> tokens = new ArrayList<>();
    private final long phi;
    private int at;
    private int open;
    int fault;
    int sums;
    Exact value = Exact.ZERO;

    /** A TOKEN: its text ("" is the end) and its place. */
    private record Token(String text, int place) {
    }

    /** What stops the reading or the valuing. */
    private static final class Stop extends RuntimeException {
        private static final long serialVersionUID = 1;
        private final int fault;

        Stop(int fault) {
            super(null, null, false, false);
            this.fault = fault;
        }
    }

    /** A place with what is worked out there: + - * / n(egative) # (a number) s w (saw) p (phi). */
    private record Node(char sort, int place, long number, Node left, Node right) {
    }

    TextOracle(String text, long phi) {
        this.phi = phi;
        cut(text);
        try {
            Node tree = sum();
            if (!look().isEmpty()) {
                throw stop(1);
            }
            value = value(tree);
        } catch (Stop stop) {
            fault = stop.fault;
        }
    }

    private void cut(String text) {
        java.util.regex.Matcher matcher =
            java.util.regex.Pattern.compile("[a-z]+|[0-9]+|[^ \n]", java.util.regex.Pattern.DOTALL).matcher(text);
        while (matcher.find()) {
            tokens.add(new Token(matcher.group(), matcher.start()));
        }
        tokens.add(new Token("", text.length()));
    }

    private String look() {
        return tokens.get(at).text();
    }

    private int place() {
        return tokens.get(at).place();
    }

    private Stop stop(int kind) {
        return new Stop(kind + 8 * place());
    }

    private boolean takes(String text) {
        if (look().equals(text)) {
            at++;
            return true;
        }
        return false;
    }

    private void must(String text) {
        if (!takes(text)) {
            throw stop(1);
        }
    }

    private void opens() {
        if (look().equals("(") && open == 9) {
            throw stop(2);
        }
        must("(");
        open++;
    }

    private void closes() {
        must(")");
        open--;
    }

    private Node sum() {
        Node left = term();
        while (look().equals("+") || look().equals("-")) {
            char sort = look().charAt(0);
            int place = place();
            at++;
            left = new Node(sort, place, 0, left, term());
        }
        return left;
    }

    private Node term() {
        Node left = factor();
        while (look().equals("*")) {
            int place = place();
            at++;
            left = new Node('*', place, 0, left, factor());
        }
        return left;
    }

    private Node factor() {
        int place = place();
        return takes("-") ? new Node('n', place, 0, unit(), null) : unit();
    }

    private Node unit() {
        int place = place();
        if (takes("saw")) {
            opens();
            Node within = sum();
            closes();
            return new Node('w', place, 0, within, null);
        }
        if (takes("s")) {
            sums++;
            opens();
            Node h = whole();
            must(",");
            Node k = whole();
            if (k.number() < 1) {
                at--;
                throw stop(2);
            }
            closes();
            return new Node('s', place, 0, h, k);
        }
        if (takes("phi")) {
            return new Node('p', place, phi, null, null);
        }
        if (look().equals("(")) {
            opens();
            Node within = sum();
            closes();
            return within;
        }
        Node upper = number();
        int sign = place();
        if (!takes("/")) {
            return upper;
        }
        Node lower = number();
        if (lower.number() == 0) {
            at--;
            throw stop(2);
        }
        return new Node('/', sign, 0, upper, lower);
    }

    private Node whole() {
        boolean negative = takes("-");
        Node number = number();
        return negative ? new Node('#', number.place(), -number.number(), null, null) : number;
    }

    private Node number() {
        if (!look().matches("[0-9]{1,9}")) {
            throw stop(1);
        }
        Node node = new Node('#', place(), Long.parseLong(look()), null, null);
        at++;
        return node;
    }

    private static Exact value(Node node) {
        Exact left = node.left() == null ? null : value(node.left());
        Exact right = node.right() == null ? null : value(node.right());
        Exact worked;
        switch (node.sort()) {
            case '+': worked = left.plus(right); break;
            case '-': worked = left.minus(right); break;
            case '*': worked = left.times(right); break;
            case '/': worked = new Exact(left.upper, right.upper); break;
            case 'n': worked = left.negate(); break;
            case 'w': worked = left.saw(); break;
            case 's': worked = Exact.sum(left.part(false), right.part(false)); break;
            default: worked = Exact.of(node.number(), 1);
        }
        if (worked.isAbove(MOST)) {
            throw new Stop(3 + 8 * node.place());
        }
        return worked;
    }
}
