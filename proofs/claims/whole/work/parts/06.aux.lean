theorem two_eq {α : Type} {a b : α} (c : α) (h1 : a = c) (h2 : b = c) : a = b := h1.trans h2.symm
