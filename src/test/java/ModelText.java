import java.util.ArrayList;
import java.util.Arrays;
import java.util.List;
import java.util.regex.Matcher;
import java.util.regex.Pattern;

/** THE TEXT told a second time: all TOKENS first, then the ITEMS. */
final class ModelText {
    private static final Pattern TOKEN = Pattern.compile("[a-z]+|[0-9]+|[^a-z0-9 ]", Pattern.DOTALL);

    private static final class Fault extends Exception {
        private static final long serialVersionUID = 1L;
        final int place;

        Fault(int place) {
            super("fault");
            this.place = place;
        }
    }

    final Model.World world;
    private final int length;
    private final List<String> tokens = new ArrayList<>();
    private final List<Integer> places = new ArrayList<>();
    private int next = 0;

    ModelText(List<Integer> tape, Model.World world) {
        this.world = world;
        this.length = tape.size();
        StringBuilder s = new StringBuilder();
        for (int b : tape) {
            s.append((char) b);
        }
        Matcher m = TOKEN.matcher(s);
        while (m.find()) {
            tokens.add(m.group());
            places.add(m.start());
        }
    }

    int read() {
        try {
            int items = 1;
            item();
            while (next < tokens.size()) {
                if (!see(";")) {
                    throw new Fault(places.get(next));
                }
                next++;
                item();
                items++;
            }
            return items;
        } catch (Fault f) {
            return -1 - f.place;
        }
    }

    private boolean see(String token) {
        return next < tokens.size() && tokens.get(next).equals(token);
    }

    private Fault fault() {
        return new Fault(next < tokens.size() ? places.get(next) : length);
    }

    private int number(int most) throws Fault {
        if (next >= tokens.size() || !Character.isDigit(tokens.get(next).charAt(0))) {
            throw fault();
        }
        java.math.BigInteger n = new java.math.BigInteger(tokens.get(next));
        if (n.compareTo(java.math.BigInteger.valueOf(Math.min(999, most))) > 0) {
            throw fault();
        }
        next++;
        return n.intValue();
    }

    private void item() throws Fault {
        if (see("sun")) {
            next++;
            int place = number(9);
            world.sun[place] = number(9);
        } else if (see("goes")) {
            next++;
            world.people.get(number(world.people.size() - 1)).chair = -1;
        } else {
            person();
        }
    }

    private void person() throws Fault {
        int kind = next < tokens.size() ? Arrays.asList(Model.NAMES).indexOf(tokens.get(next)) : -1;
        if (kind < 0 || world.people.size() == 8) {
            throw fault();
        }
        next++;
        Model.Person p = new Model.Person(kind);
        if (see("brown")) {
            next++;
            p.left = number(200);
            p.right = p.left;
        }
        if (see("on")) {
            next++;
            int at = next;
            int chair = number(9);
            if (world.onChair(chair) != null) {
                next = at;
                throw fault();
            }
            p.chair = chair;
        }
        world.people.add(p);
    }
}
