import java.lang.reflect.Constructor;
import java.lang.reflect.Field;
import java.lang.reflect.Method;
import java.lang.reflect.Modifier;
import java.util.Arrays;
import java.util.TreeSet;

/** Promise 1 and the public face: a new object, and nothing to be seen but what the document tells. */
public final class FaceTest {
    private static final String[] METHODS = {
        "boolean card(int,long,long)",
        "boolean wire(int,int,int)",
        "int strip(int)",
        "boolean level(int,int,int)",
        "int pass(int,int,boolean) IllegalArgumentException",
        "int sort(int,int,int) IllegalArgumentException",
        "int merge(int,int,int,int) IllegalArgumentException IllegalStateException",
        "int match(int,int,int,int,int) IllegalArgumentException IllegalStateException",
        "int reproduce(int,int,int) IllegalArgumentException",
        "int gang(int,int,int) IllegalArgumentException",
        "int multiply(int,int,int,int) IllegalArgumentException",
        "int tabulate(int,int) IllegalArgumentException",
        "boolean cut(int,int,int)",
        "int sign(int,int,int) IndexOutOfBoundsException",
        "int printed(int,int) IndexOutOfBoundsException",
        "int counter(int) IndexOutOfBoundsException",
        "int tear()",
        "int fault(int)",
        "int count(int)"
    };

    public static void main(String[] args) {
        theFace();
        privateNames();
        emptyDecks();
        bareBoards();
        blankPaper();
        nothingWasDone();
        objectsAreApart();
        Check.end();
    }

    private static void theFace() {
        Check.sentence("The public face");
        Class<CardOffice> office = CardOffice.class;
        Check.due("public and final", Modifier.PUBLIC | Modifier.FINAL, office.getModifiers());
        Check.due("NONE", -1, CardOffice.NONE);

        TreeSet<String> methods = new TreeSet<>();
        for (Method method : office.getDeclaredMethods()) {
            if (!Modifier.isPrivate(method.getModifiers())) {
                methods.add(told(method));
            }
        }
        Check.due("methods", new TreeSet<>(Arrays.asList(METHODS)), methods);

        TreeSet<String> fields = new TreeSet<>();
        for (Field field : office.getDeclaredFields()) {
            if (!Modifier.isPrivate(field.getModifiers())) {
                fields.add(Modifier.toString(field.getModifiers()) + " " + field.getType() + " " + field.getName());
            }
        }
        Check.due("fields", "[public static final int NONE]", fields.toString());

        Constructor<?>[] constructors = office.getDeclaredConstructors();
        Check.due("constructors", "[public CardOffice()]", Arrays.toString(constructors));
    }

    private static String told(Method method) {
        StringBuilder text = new StringBuilder();
        text.append(method.getReturnType().getSimpleName()).append(' ').append(method.getName()).append('(');
        Class<?>[] parameters = method.getParameterTypes();
        for (int k = 0; k < parameters.length; k++) {
            text.append(k == 0 ? "" : ",").append(parameters[k].getSimpleName());
        }
        text.append(')');
        for (Class<?> thrown : method.getExceptionTypes()) {
            text.append(' ').append(thrown.getSimpleName());
        }
        return text.toString();
    }

    private static void privateNames() {
        Check.sentence("LANGUAGE.md, rule 1: no private method bears the name of a public one");
        TreeSet<String> faceNames = new TreeSet<>();
        for (Method method : CardOffice.class.getMethods()) {
            faceNames.add(method.getName());
        }
        for (Method method : CardOffice.class.getDeclaredMethods()) {
            if (Modifier.isPrivate(method.getModifiers())) {
                Check.due("face has " + method.getName(), false, faceNames.contains(method.getName()));
            }
        }
        for (Class<?> inside : CardOffice.class.getDeclaredClasses()) {
            Check.due(inside + " is static", true, Modifier.isStatic(inside.getModifiers()));
            for (Method method : inside.getDeclaredMethods()) {
                Check.due("face has " + method.getName(), false, faceNames.contains(method.getName()));
            }
        }
    }

    private static void emptyDecks() {
        Check.sentence("Promise 1: Empty decks");
        CardOffice x = new CardOffice();
        for (int deck = 0; deck < 8; deck++) {
            int d = deck;
            Check.due("cards of deck " + deck, 0, x.count(deck));
            Check.dueThrow("sign of deck " + deck, Check.INDEX, () -> x.sign(d, 0, 0));
            Check.due("a card cut from deck " + deck, false, x.cut(deck, 1, (deck + 1) % 8));
        }
        Check.due("cards in all", 0, x.count(8));
    }

    private static void bareBoards() {
        Check.sentence("Promise 1: bare boards");
        CardOffice x = new CardOffice();
        for (int board = 0; board < 4; board++) {
            Check.due("wires of board " + board, 0, x.count(10 + board));
            Check.due("strip " + board, 0, x.strip(board));
        }
        newBoardsHaveLevelThree();
    }

    private static void blankPaper() {
        Check.sentence("Promise 1: blank paper");
        CardOffice x = new CardOffice();
        Check.due("lines", 0, x.count(9));
        Check.dueThrow("printed", Check.INDEX, () -> x.printed(0, 0));
        Check.due("tear", 0, x.tear());
    }

    private static void nothingWasDone() {
        Check.sentence("Promise 1: nothing was done so far");
        CardOffice x = new CardOffice();
        Check.due("passes", 0, x.count(14));
        Check.due("brought by the collator", 0, x.count(15));
        Check.due("counters", "0 0 0 0", Desk.counters(x));
        Check.due("fault", "0 at -1", Desk.fault(x));
    }

    /** One line behind the last card tells that every counter's level is 3. */
    private static void newBoardsHaveLevelThree() {
        for (int board = 0; board < 4; board++) {
            CardOffice x = Desk.officeWith(0, "1", "2");
            Desk.wireAll(x, board, 0, 96, 0, 97, 0, 98, 0, 64, 32, 32, 38, 33);
            Check.due("tabulate", 2, x.tabulate(board, 0));
            Check.due("paper of board " + board, "30", Desk.paper(x));
        }
    }

    private static void objectsAreApart() {
        Check.sentence("Promise 1: a new object has nothing of another one");
        CardOffice x = Desk.officeWith(0, "1");
        CardOffice y = new CardOffice();
        x.wire(0, 0, 99);
        x.tabulate(0, 0);
        Check.due("cards of the other", 0, y.count(8));
        Check.due("wires of the other", 0, y.count(10));
        Check.due("lines of the other", 0, y.count(9));
    }
}
