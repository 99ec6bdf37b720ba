/-! ===== sets of documents, as rows ===== -/
def hsF (f : Int → Int) (x : Int) : Nat → Bool
  | 0 => false
  | k + 1 => hsF f x k || decide (f k = x)
/-- is x a document of the list? -/
def hs (c : Int) (f : Int → Int) (x : Int) : Bool := hsF f x c.toNat
theorem hsF_iff (f : Int → Int) (x : Int) : ∀ k : Nat, hsF f x k = true ↔ ∃ i : Int, 0 ≤ i ∧ i < k ∧ f i = x := by
  intro k
  induction k with
  | zero => constructor
            · intro h; cases h
            · rintro ⟨i, a, b, -⟩; omega
  | succ k ih =>
    show (hsF f x k || decide (f k = x)) = true ↔ _
    rw [Bool.or_eq_true, ih]
    constructor
    · rintro (⟨i, a, b, e⟩ | h)
      · exact ⟨i, a, by omega, e⟩
      · exact ⟨k, by omega, by omega, of_decide_eq_true h⟩
    · rintro ⟨i, a, b, e⟩
      by_cases hk : i = k
      · right; rw [hk] at e; exact decide_eq_true e
      · left; exact ⟨i, a, by omega, e⟩
theorem hs_iff {c : Int} {f : Int → Int} {x : Int} (hc : 0 ≤ c) : hs c f x = true ↔ ∃ i : Int, 0 ≤ i ∧ i < c ∧ f i = x := by
  unfold hs
  rw [hsF_iff, show ((c.toNat : Nat) : Int) = c by omega]
theorem hs_cb {c : Int} {f : Int → Int} {x : Int} (hO : LOk c f) (h0 : 0 ≤ x) : dA c f (cb c f x) = x ↔ hs c f x = true := by
  rw [hs_iff hO.1]
  obtain ⟨a1, a2, a3, a4⟩ := cb_is f x hO.1
  constructor
  · intro h
    by_cases g : cb c f x < c
    · rw [dA_in a1 g] at h; exact ⟨_, a1, g, h⟩
    · rw [dA_out (by omega)] at h; omega
  · rintro ⟨i, i0, i1, e⟩
    have : i = cb c f x := by
      rcases Int.lt_trichotomy i (cb c f x) with g | g | g
      · have := a3 i i0 g; omega
      · exact g
      · have := hO.2.2.2 (cb c f x) i a1 g i1
        have := a4 (by omega)
        omega
    rw [← this, dA_in i0 i1]; exact e
theorem cb_mono {c : Int} {f : Int → Int} (hO : LOk c f) (y : Int) : cb c f y ≤ cb c f (y + 1) ∧ (hs c f y = true → cb c f y + 1 ≤ cb c f (y + 1)) := by
  obtain ⟨a1, a2, a3, a4⟩ := cb_is f y hO.1
  obtain ⟨b1, b2, b3, b4⟩ := cb_is f (y + 1) hO.1
  have m1 : cb c f y ≤ cb c f (y + 1) := by
    rcases Int.lt_or_le (cb c f (y + 1)) (cb c f y) with g | g
    · have := a3 _ b1 g
      have := b4 (by omega)
      omega
    · exact g
  refine ⟨m1, fun h => ?_⟩
  obtain ⟨i, i0, i1, e⟩ := (hs_iff hO.1).mp h
  rcases Int.lt_or_le (cb c f y) (cb c f (y + 1)) with g | g
  · omega
  · have e2 : cb c f (y + 1) = cb c f y := by omega
    have g1 : cb c f y ≤ i := by
      rcases Int.lt_or_le i (cb c f y) with z | z
      · have := a3 i i0 z; omega
      · exact z
    rw [e2] at b4
    have := b4 (by omega)
    by_cases z : i = cb c f y
    · rw [← z] at this; omega
    · have := hO.2.2.2 (cb c f y) i a1 (by omega) i1; omega
/-- the numbers from 0 to ahead of k that p names, in order -/
def en (p : Int → Bool) : Nat → Int × (Int → Int)
  | 0 => (0, fun _ => 0)
  | k + 1 => if p k then ((en p k).1 + 1, ui (en p k).2 (en p k).1 k) else en p k
theorem en_t {p : Int → Bool} {k : Nat} (h : p k = true) : en p (k + 1) = ((en p k).1 + 1, ui (en p k).2 (en p k).1 k) := by
  show (if p k then _ else _) = _
  rw [if_pos h]
theorem en_f {p : Int → Bool} {k : Nat} (h : ¬ p k = true) : en p (k + 1) = en p k := by
  show (if p k then _ else _) = _
  rw [if_neg h]
theorem en_ok (p : Int → Bool) : ∀ k : Nat, 0 ≤ (en p k).1 ∧ (en p k).1 ≤ k ∧ (∀ i, 0 ≤ i → i < (en p k).1 → 0 ≤ (en p k).2 i ∧ (en p k).2 i < k ∧ p ((en p k).2 i) = true) ∧ (∀ i j, 0 ≤ i → i < j → j < (en p k).1 → (en p k).2 i < (en p k).2 j) ∧ (∀ x : Int, 0 ≤ x → x < k → p x = true → ∃ i, 0 ≤ i ∧ i < (en p k).1 ∧ (en p k).2 i = x) := by
  intro k
  induction k with
  | zero => exact ⟨Int.le_refl _, Int.le_refl _, fun i a b => by have : i < 0 := b; omega, fun i j a b d => by have : j < 0 := d; omega, fun x a b => by omega⟩
  | succ k ih =>
    obtain ⟨a1, a2, a3, a4, a5⟩ := ih
    by_cases h : p k = true
    · rw [en_t h]
      refine ⟨by show 0 ≤ (en p k).1 + 1; omega, by show (en p k).1 + 1 ≤ _; omega, fun i i0 i1 => ?_, fun i j i0 i1 i2 => ?_, fun x x0 x1 px => ?_⟩
      · have i1' : i < (en p k).1 + 1 := i1
        show 0 ≤ ui (en p k).2 (en p k).1 k i ∧ ui (en p k).2 (en p k).1 k i < _ ∧ p (ui (en p k).2 (en p k).1 k i) = true
        unfold ui
        by_cases e : i = (en p k).1
        · rw [if_pos e]; exact ⟨by omega, by omega, h⟩
        · rw [if_neg e]; have := a3 i i0 (by omega); exact ⟨this.1, by omega, this.2.2⟩
      · have i2' : j < (en p k).1 + 1 := i2
        show ui (en p k).2 (en p k).1 k i < ui (en p k).2 (en p k).1 k j
        unfold ui
        rw [if_neg (by omega)]
        by_cases e : j = (en p k).1
        · rw [if_pos e]; exact (a3 i i0 (by omega)).2.1
        · rw [if_neg e]; exact a4 i j i0 i1 (by omega)
      · by_cases e : x = k
        · refine ⟨(en p k).1, a1, by show (en p k).1 < (en p k).1 + 1; omega, ?_⟩
          show ui (en p k).2 (en p k).1 k (en p k).1 = x
          unfold ui; rw [if_pos rfl]; exact e.symm
        · obtain ⟨i, i0, i1, ei⟩ := a5 x x0 (by omega) px
          refine ⟨i, i0, by show i < (en p k).1 + 1; omega, ?_⟩
          show ui (en p k).2 (en p k).1 k i = x
          unfold ui; rw [if_neg (by omega)]; exact ei
    · rw [en_f h]
      refine ⟨a1, by omega, fun i i0 i1 => ?_, a4, fun x x0 x1 px => ?_⟩
      · have := a3 i i0 i1; exact ⟨this.1, by omega, this.2.2⟩
      · by_cases e : x = k
        · rw [e] at px; exact absurd px h
        · exact a5 x x0 (by omega) px
/-- an ascending row that has just the numbers that p names is that row -/
theorem en_uniq {p : Int → Bool} {k : Nat} {n : Int} {g : Int → Int} (h0 : 0 ≤ n) (h1 : ∀ i, 0 ≤ i → i < n → 0 ≤ g i ∧ g i < k ∧ p (g i) = true) (h2 : ∀ i j, 0 ≤ i → i < j → j < n → g i < g j) (h3 : ∀ x : Int, 0 ≤ x → x < k → p x = true → ∃ i, 0 ≤ i ∧ i < n ∧ g i = x) : n = (en p k).1 ∧ Ag n g (en p k).2 := by
  obtain ⟨a1, a2, a3, a4, a5⟩ := en_ok p k
  have key : ∀ m : Nat, (m : Int) < n → (m : Int) < (en p k).1 → g m = (en p k).2 m := by
    intro m
    induction m using Nat.strongRecOn with
    | ind m ih =>
      intro hm hm'
      obtain ⟨b1, b2, b3⟩ := h1 m (by omega) hm
      obtain ⟨c1, c2, c3⟩ := a3 m (by omega) hm'
      obtain ⟨i, i0, i1, ei⟩ := a5 (g m) b1 b2 b3
      obtain ⟨j, j0, j1, ej⟩ := h3 ((en p k).2 m) c1 c2 c3
      have hi : (m : Int) ≤ i := by
        rcases Int.lt_or_le i m with z | z
        · have e1 := ih i.toNat (by omega) (by omega) (by omega)
          rw [show ((i.toNat : Nat) : Int) = i by omega] at e1
          have := h2 i m i0 z hm
          omega
        · exact z
      have hj : (m : Int) ≤ j := by
        rcases Int.lt_or_le j m with z | z
        · have e1 := ih j.toNat (by omega) (by omega) (by omega)
          rw [show ((j.toNat : Nat) : Int) = j by omega] at e1
          have := a4 j m j0 z hm'
          omega
        · exact z
      have u1 : (en p k).2 m ≤ g m := by
        rw [← ei]
        by_cases z : i = m
        · rw [z]; exact Int.le_refl _
        · exact Int.le_of_lt (a4 m i (by omega) (by omega) i1)
      have u2 : g m ≤ (en p k).2 m := by
        rw [← ej]
        by_cases z : j = m
        · rw [z]; exact Int.le_refl _
        · exact Int.le_of_lt (h2 m j (by omega) (by omega) j1)
      omega
  have en1 : n = (en p k).1 := by
    rcases Int.lt_trichotomy n (en p k).1 with z | z | z
    · exfalso
      obtain ⟨c1, c2, c3⟩ := a3 n h0 z
      obtain ⟨j, j0, j1, ej⟩ := h3 _ c1 c2 c3
      have e1 := key j.toNat (by omega) (by omega)
      rw [show ((j.toNat : Nat) : Int) = j by omega] at e1
      have := a4 j n j0 j1 z
      omega
    · exact z
    · exfalso
      obtain ⟨c1, c2, c3⟩ := h1 (en p k).1 a1 z
      obtain ⟨j, j0, j1, ej⟩ := a5 _ c1 c2 c3
      have e1 := key j.toNat (by omega) (by omega)
      rw [show ((j.toNat : Nat) : Int) = j by omega] at e1
      have := h2 j (en p k).1 j0 j1 z
      omega
  refine ⟨en1, fun i i0 i1 => ?_⟩
  have := key i.toNat (by omega) (by omega)
  rw [show ((i.toNat : Nat) : Int) = i by omega] at this
  exact this
theorem en_skip {p : Int → Bool} {y : Nat} : ∀ n : Nat, (∀ x : Int, y ≤ x → x < y + n → ¬ p x = true) → en p (y + n) = en p y := by
  intro n
  induction n with
  | zero => intro _; rfl
  | succ n ih =>
    intro h
    rw [show y + (n + 1) = (y + n) + 1 by omega, en_f (h _ (by omega) (by omega))]
    exact ih (fun x a b => h x a (by omega))
theorem en_LOk {p : Int → Bool} {k : Nat} (hk : k ≤ 512) (h : (en p k).1 ≤ 64) : LOk (en p k).1 (en p k).2 := by
  obtain ⟨a1, a2, a3, a4, -⟩ := en_ok p k
  exact ⟨a1, h, fun i i0 i1 => by have := a3 i i0 i1; omega, a4⟩
/-- the union -/
def uP (S : ASt) (i j : Nat) : Int → Bool := fun x => hs (S.1 i).1 (S.1 i).2 x || hs (S.1 j).1 (S.1 j).2 x
def uni (S : ASt) (i j : Nat) : Int × (Int → Int) := en (uP S i j) 512
theorem uni_le {S : ASt} {i j : Nat} (h1 : LOk (S.1 i).1 (S.1 i).2) (h2 : LOk (S.1 j).1 (S.1 j).2) : ∀ k : Nat, (en (uP S i j) k).1 ≤ cb (S.1 i).1 (S.1 i).2 k + cb (S.1 j).1 (S.1 j).2 k := by
  intro k
  induction k with
  | zero =>
    have := (cb_is (S.1 i).2 ((0 : Nat) : Int) h1.1).1
    have := (cb_is (S.1 j).2 ((0 : Nat) : Int) h2.1).1
    show (0 : Int) ≤ _
    omega
  | succ k ih =>
    have m1 := cb_mono h1 k
    have m2 := cb_mono h2 k
    rw [show ((k + 1 : Nat) : Int) = (k : Int) + 1 by omega]
    by_cases h : uP S i j k = true
    · rw [en_t h]
      show (en (uP S i j) k).1 + 1 ≤ _
      have h' := h
      unfold uP at h'
      rw [Bool.or_eq_true] at h'
      rcases h' with z | z
      · have := m1.2 z; omega
      · have := m2.2 z; omega
    · rw [en_f h]; omega
theorem uni_128 {S : ASt} {i j : Nat} (h1 : LOk (S.1 i).1 (S.1 i).2) (h2 : LOk (S.1 j).1 (S.1 j).2) (k : Nat) : (en (uP S i j) k).1 ≤ 128 := by
  have := uni_le h1 h2 k
  have := (cb_is (S.1 i).2 (k : Int) h1.1).2.1
  have := (cb_is (S.1 j).2 (k : Int) h2.1).2.1
  have := h1.2.1
  have := h2.2.1
  omega
/-- the difference: the first k documents of list i, without those of list j -/
def dif (S : ASt) (i j : Nat) : Nat → Int × (Int → Int)
  | 0 => (0, fun _ => 0)
  | k + 1 => if hs (S.1 j).1 (S.1 j).2 ((S.1 i).2 k) then dif S i j k else ((dif S i j k).1 + 1, ui (dif S i j k).2 (dif S i j k).1 ((S.1 i).2 k))
theorem dif_t {S : ASt} {i j k : Nat} (h : hs (S.1 j).1 (S.1 j).2 ((S.1 i).2 k) = true) : dif S i j (k + 1) = dif S i j k := by
  show (if hs (S.1 j).1 (S.1 j).2 ((S.1 i).2 k) then _ else _) = _
  rw [if_pos h]
theorem dif_f {S : ASt} {i j k : Nat} (h : ¬ hs (S.1 j).1 (S.1 j).2 ((S.1 i).2 k) = true) : dif S i j (k + 1) = ((dif S i j k).1 + 1, ui (dif S i j k).2 (dif S i j k).1 ((S.1 i).2 k)) := by
  show (if hs (S.1 j).1 (S.1 j).2 ((S.1 i).2 k) then _ else _) = _
  rw [if_neg h]
theorem dif_ok {S : ASt} {i j : Nat} (hO : LOk (S.1 i).1 (S.1 i).2) : ∀ k : Nat, (k : Int) ≤ (S.1 i).1 → 0 ≤ (dif S i j k).1 ∧ (dif S i j k).1 ≤ k ∧ (∀ t, 0 ≤ t → t < (dif S i j k).1 → 0 ≤ (dif S i j k).2 t ∧ (dif S i j k).2 t ≤ 511 ∧ ∀ q : Int, (k : Int) ≤ q → q < (S.1 i).1 → (dif S i j k).2 t < (S.1 i).2 q) ∧ (∀ t u, 0 ≤ t → t < u → u < (dif S i j k).1 → (dif S i j k).2 t < (dif S i j k).2 u) := by
  intro k
  induction k with
  | zero => intro _; exact ⟨Int.le_refl _, Int.le_refl _, fun t a b => by have : t < 0 := b; omega, fun t u a b d => by have : u < 0 := d; omega⟩
  | succ k ih =>
    intro hk
    obtain ⟨a1, a2, a3, a4⟩ := ih (by omega)
    by_cases h : hs (S.1 j).1 (S.1 j).2 ((S.1 i).2 k) = true
    · rw [dif_t h]
      exact ⟨a1, by omega, fun t t0 t1 => by obtain ⟨x, y, z⟩ := a3 t t0 t1; exact ⟨x, y, fun q q0 q1 => z q (by omega) q1⟩, a4⟩
    · rw [dif_f h]
      refine ⟨by show 0 ≤ (dif S i j k).1 + 1; omega, by show (dif S i j k).1 + 1 ≤ _; omega, fun t t0 t1 => ?_, fun t u t0 t1 t2 => ?_⟩
      · have t1' : t < (dif S i j k).1 + 1 := t1
        show 0 ≤ ui _ _ _ t ∧ ui _ _ _ t ≤ 511 ∧ ∀ q : Int, _ ≤ q → q < _ → ui (dif S i j k).2 (dif S i j k).1 ((S.1 i).2 k) t < (S.1 i).2 q
        unfold ui
        by_cases e : t = (dif S i j k).1
        · rw [if_pos e]
          have := hO.2.2.1 k (by omega) (by omega)
          exact ⟨this.1, this.2, fun q q0 q1 => hO.2.2.2 k q (by omega) (by omega) q1⟩
        · rw [if_neg e]
          obtain ⟨x, y, z⟩ := a3 t t0 (by omega)
          exact ⟨x, y, fun q q0 q1 => z q (by omega) q1⟩
      · have t2' : u < (dif S i j k).1 + 1 := t2
        show ui (dif S i j k).2 (dif S i j k).1 ((S.1 i).2 k) t < ui (dif S i j k).2 (dif S i j k).1 ((S.1 i).2 k) u
        unfold ui
        rw [if_neg (by omega)]
        by_cases e : u = (dif S i j k).1
        · rw [if_pos e]; exact (a3 t t0 (by omega)).2.2 k (by omega) (by omega)
        · rw [if_neg e]; exact a4 t u t0 t1 (by omega)
def sub (S : ASt) (i j : Nat) : Int × (Int → Int) := dif S i j (S.1 i).1.toNat
theorem sub_LOk {S : ASt} {i j : Nat} (hO : LOk (S.1 i).1 (S.1 i).2) : LOk (sub S i j).1 (sub S i j).2 := by
  have h0 := hO.1
  have h1 := hO.2.1
  obtain ⟨a1, a2, a3, a4⟩ := dif_ok (j := j) hO (S.1 i).1.toNat (by omega)
  exact ⟨a1, by show (dif S i j (S.1 i).1.toNat).1 ≤ 64; omega, fun t t0 t1 => ⟨(a3 t t0 t1).1, (a3 t t0 t1).2.1⟩, a4⟩
theorem ag_ui {n : Int} {f g : Int → Int} (h : Ag n f g) (x : Int) : Ag (n + 1) (ui f n x) (ui g n x) := by
  intro i i0 i1
  unfold ui
  by_cases e : i = n
  · rw [if_pos e, if_pos e]
  · rw [if_neg e, if_neg e]; exact h i i0 (by omega)
