/** The document's face, so that a BeamDrawer and a second reading of the document can be asked alike. */
interface Face {
    void write(int register, int v);

    int clocks(int n);

    int sync();

    int pixel(int x);

    boolean met(int a, int b);

    int place(int object);

    boolean there(int object, int x);

    int set(int interval, int v);

    int count(int what);

    /** One with the same calls behind it: what it is asked does not count here. */
    Face again();
}
