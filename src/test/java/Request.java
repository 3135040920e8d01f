/** The ten requests of the document, so that what it tells of all can be asked of each. */
enum Request {
    MAKE, SET, GIVE, TRIM, REMOVE, READ, SIZE, THERE, LIST, RELEASE;

    /** The others are of a file at the subject's own label. */
    boolean tellsLabel() {
        return this != SET && this != TRIM && this != REMOVE;
    }

    /** MAKE's folder, SET's cell, GIVE's value, TRIM's n, READ's cell or RELEASE's other label comes last. */
    int ask(TierHouse x, int subject, int label, int number, int last) {
        switch (this) {
            case MAKE: return x.make(subject, label, number, last);
            case SET: return x.set(subject, number, last, 7);
            case GIVE: return x.give(subject, label, number, last);
            case TRIM: return x.trim(subject, number, last);
            case REMOVE: return x.remove(subject, number);
            case READ: return x.read(subject, label, number, last);
            case SIZE: return x.size(subject, label, number);
            case THERE: return x.there(subject, label, number);
            case LIST: return x.listed(subject, label, number);
            default: return x.release(subject, label, number, last);
        }
    }
}
