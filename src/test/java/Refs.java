import java.io.DataInputStream;
import java.io.IOException;
import java.util.Set;
import java.util.TreeSet;

/** The methods that a compiled class names: the rows of its class file that tell them. */
final class Refs {
    private static final int UTF8 = 1;
    private static final int LONG = 5;
    private static final int DOUBLE = 6;
    private static final int CLASS = 7;
    private static final int STRING = 8;
    private static final int METHOD = 10;
    private static final int INTERFACE_METHOD = 11;
    private static final int METHOD_HANDLE = 15;
    private static final int METHOD_TYPE = 16;
    private static final int FIRST_OF_ONE_SHORT = 19;

    private final String[] texts;
    private final int[] tags;
    private final int[] first;
    private final int[] second;

    private Refs(DataInputStream in) throws IOException {
        in.readInt();
        in.readInt();
        int many = in.readUnsignedShort();
        texts = new String[many];
        tags = new int[many];
        first = new int[many];
        second = new int[many];
        for (int i = 1; i < many; i++) {
            tags[i] = in.readUnsignedByte();
            readRow(in, i);
            if (tags[i] == LONG || tags[i] == DOUBLE) {
                i++;
            }
        }
    }

    private void readRow(DataInputStream in, int i) throws IOException {
        int tag = tags[i];
        if (tag == UTF8) {
            texts[i] = in.readUTF();
        } else if (tag == LONG || tag == DOUBLE) {
            in.readLong();
        } else if (tag == METHOD_HANDLE) {
            in.readUnsignedByte();
            in.readUnsignedShort();
        } else {
            first[i] = in.readUnsignedShort();
            boolean single = tag == CLASS || tag == STRING || tag == METHOD_TYPE || tag >= FIRST_OF_ONE_SHORT;
            second[i] = single ? 0 : in.readUnsignedShort();
        }
    }

    /** Each as its class, a point, and its name. */
    static Set<String> methods(Class<?> c) throws IOException {
        String file = c.getName() + ".class";
        Set<String> named = new TreeSet<>();
        try (DataInputStream in = new DataInputStream(c.getResourceAsStream(file))) {
            Refs refs = new Refs(in);
            for (int i = 1; i < refs.tags.length; i++) {
                if (refs.tags[i] == METHOD || refs.tags[i] == INTERFACE_METHOD) {
                    String owner = refs.texts[refs.first[refs.first[i]]];
                    named.add(owner + "." + refs.texts[refs.first[refs.second[i]]]);
                }
            }
        }
        return named;
    }
}
