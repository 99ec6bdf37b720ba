/-! ===== queries ===== -/
def pnF (c : Int) (f : Int → Int) : Nat → Nat → Nat
  | 0, k => k
  | n + 1, k => if pb c f k < c then pnF c f n (k + 1) else k
/-- how many partitions -/
def pn (c : Int) (f : Int → Int) : Nat := pnF c f c.toNat 0
theorem pnF_eq {c : Int} {f : Int → Int} {m : Nat} (h1 : ∀ k : Nat, k < m → pb c f k < c) (h2 : pb c f m = c) : ∀ (n k : Nat), k ≤ m → m ≤ k + n → pnF c f n k = m := by
  intro n
  induction n with
  | zero => intro k a b; show k = m; omega
  | succ n ih =>
    intro k a b
    show (if pb c f k < c then pnF c f n (k + 1) else k) = m
    by_cases e : k = m
    · rw [if_neg (by rw [e, h2]; omega)]; exact e
    · rw [if_pos (h1 k (by omega))]; exact ih (k + 1) (by omega) (by omega)
theorem FOk.pn {c : Int} {f : Int → Int} {m : Nat} {fa : Int → Int} (h : FOk c f m fa) : m = pn c f := (pnF_eq h.2.1 h.2.2.1 c.toNat 0 (Nat.zero_le _) (by have := h.1; omega)).symm
/-- the first partition whose last document is at least x -/
def kqF (c : Int) (f : Int → Int) (x : Int) : Nat → Nat → Nat
  | 0, k => k
  | n + 1, k => if f (pb c f (k + 1) - 1) < x then kqF c f x n (k + 1) else k
def kq (c : Int) (f : Int → Int) (x : Int) : Nat := kqF c f x (pn c f) 0
theorem kqF_s {c : Int} {f : Int → Int} {x : Int} {n k : Nat} (h : f (pb c f (k + 1) - 1) < x) : kqF c f x (n + 1) k = kqF c f x n (k + 1) := by
  show (if f (pb c f (k + 1) - 1) < x then _ else _) = _
  rw [if_pos h]
theorem kqF_e {c : Int} {f : Int → Int} {x : Int} {n k : Nat} (h : ¬ f (pb c f (k + 1) - 1) < x) : kqF c f x (n + 1) k = k := by
  show (if f (pb c f (k + 1) - 1) < x then _ else _) = _
  rw [if_neg h]
def qIn (S : ASt) (i k : Nat) (x : Int) : Int × ASt :=
  let c := (S.1 i).1
  let f := (S.1 i).2
  let ans := cb c f x
  let key : Int := 100 * i + k
  (dA c f ans, if key ∈ S.2.2.1 then (S.1, S.2.1, cUse S.2.1 S.2.2.1 key, S.2.2.2.1, S.2.2.2.2 + 1) else (S.1, S.2.1, cUse S.2.1 S.2.2.1 key, S.2.2.2.1 + rdI c f (fct f (pb c f k) (pb c f (k + 1)) 0) (fct f (pb c f k) (pb c f (k + 1)) 2) (fct f (pb c f k) (pb c f (k + 1)) 5) x ans, S.2.2.2.2))
def addR (S : ASt) (n : Int) : ASt := (S.1, S.2.1, S.2.2.1, S.2.2.2.1 + n, S.2.2.2.2)
def qry (S : ASt) (i : Nat) (x : Int) : Int × ASt :=
  let c := (S.1 i).1
  let f := (S.1 i).2
  let k := kq c f x
  if k < pn c f then (if x ≤ f (pb c f k) then (f (pb c f k), addR S (k + 1)) else qIn (addR S (k + 1)) i k x) else (-1, addR S k)
theorem fct5_rng {c : Int} {f : Int → Int} (hO : LOk c f) {s e : Int} (h0 : 0 ≤ s) (h1 : s < e) (h2 : e ≤ c) : 0 ≤ fct f s e 5 ∧ fct f s e 5 ≤ 9 := by
  have g := hO.wid h0 h1 h2
  obtain ⟨l1, l2, -, -⟩ := lb_spec (n := e - s) (u := f (e - 1) - f s + 1) (by omega) g.1 g.2
  show 0 ≤ (if knd (e - s) (f (e - 1) - f s + 1) = 2 then lb (e - s) (f (e - 1) - f s + 1) else 0) ∧ (if knd (e - s) (f (e - 1) - f s + 1) = 2 then lb (e - s) (f (e - 1) - f s + 1) else 0) ≤ 9
  split <;> omega
