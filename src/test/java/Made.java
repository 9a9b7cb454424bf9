/** Files and CHUNKS made by hand, byte by byte. */
final class Made {
    static final int NUMBER = 110, WORDS = 115, RAW = 114, GROUP = 103;

    private Made() {
    }

    static int check(int version, int... payload) {
        int check = 0;
        for (int b : payload) {
            check = version == 1 ? check + b : version == 2 ? check ^ b : check * 31 + b;
        }
        return check & 255;
    }

    /** A CHUNK as it stands in a GROUP: TYPE, LENGTH, PAYLOAD, CHECK. */
    static int[] chunk(int version, int type, int... payload) {
        return join(row(type, payload.length), payload, row(check(version, payload)));
    }

    /** GROUPS in one another, as many as told, around a CHUNK. */
    static int[] nested(int version, int groups, int... innermost) {
        int[] chunk = innermost;
        for (int k = 0; k < groups; k++) {
            chunk = chunk(version, GROUP, chunk);
        }
        return chunk;
    }

    /** A file with one ENTRY, whose PAYLOAD stands from place 7 on. */
    static int[] file(int version, int type, int... payload) {
        return join(row(67, 70, version, 1, type, 7, payload.length), payload, row(check(version, payload)));
    }

    /** A file of the ENTRIES that CHUNKS (as in a GROUP) tell, one behind the other. */
    static int[] fileOf(int version, int[]... chunks) {
        int[] bytes = row(67, 70, version, chunks.length);
        int offset = 4 + 3 * chunks.length;
        for (int[] chunk : chunks) {
            bytes = join(bytes, row(chunk[0], offset, chunk[1]));
            offset += chunk.length - 2;
        }
        for (int[] chunk : chunks) {
            bytes = join(bytes, java.util.Arrays.copyOfRange(chunk, 2, chunk.length));
        }
        return bytes;
    }

    static int[] row(int... items) {
        return items;
    }

    static int[] filled(int n, int v) {
        int[] row = new int[n];
        java.util.Arrays.fill(row, v);
        return row;
    }

    static int[] join(int[]... rows) {
        int many = 0;
        for (int[] row : rows) {
            many += row.length;
        }
        int[] all = new int[many];
        int at = 0;
        for (int[] row : rows) {
            System.arraycopy(row, 0, all, at, row.length);
            at += row.length;
        }
        return all;
    }

    /** The row so many times, one behind the other. */
    static int[] times(int n, int... row) {
        int[] all = new int[0];
        for (int k = 0; k < n; k++) {
            all = join(all, row);
        }
        return all;
    }

    /** How long a text without FAULT comes to be, WRITTEN; its NUMBERS are those of one byte. */
    static int lengthOf(String text) {
        int length = 4;
        int sets = 0;
        for (String part : text.split("(?=[;()])|(?<=[;()])")) {
            if (part.equals("(")) {
                sets++;
            } else if (part.equals(")")) {
                sets--;
            } else if (!part.equals(";")) {
                length += sets == 0 ? 4 : 3;
                String told = part.substring(Math.min(4, part.length()));
                length += part.startsWith("num") ? 1 : part.startsWith("str") ? told.length()
                    : told.isEmpty() ? 0 : told.split(",").length;
            }
        }
        return length;
    }
}
