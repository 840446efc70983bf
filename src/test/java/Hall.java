/** The document's face, so that the program and the plain hall are called alike. */
interface Hall {
    int NONE = GlassHall.NONE;

    int sheet(int w, int h);

    int flaw(int id, int x, int y, int w, int h);

    int order(int w, int h, boolean turn, int n);

    int plan(int id);

    int exact(int id, int a, int b, int c);

    int node(int id, int i, int what);

    int nodes(int id);

    int score(int id);

    int broke(int id, int node);

    int cancel(int id);

    int use(int k);

    int rack(int k, int what);

    int fit(int w, int h);

    int flawed(int id, int k, int what);

    int panes(int order, int what);

    long area(int kind);

    int total(int what);
}
