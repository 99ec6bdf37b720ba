/-! ===== intersections by queries ===== -/
theorem pn_ok {c : Int} {f : Int → Int} (hc : 0 ≤ c) : (∀ k : Nat, k < pn c f → pb c f k < c) ∧ pb c f (pn c f) = c ∧ (pn c f : Int) ≤ c := by
  have key : ∀ (n k : Nat), k + n = c.toNat → (∀ j : Nat, j < k → pb c f j < c) → (∀ j : Nat, j < pnF c f n k → pb c f j < c) ∧ pb c f (pnF c f n k) = c ∧ (pnF c f n k : Int) ≤ c := by
    intro n
    induction n with
    | zero =>
      intro k hk hj
      have := pb_rng (ds := f) hc k
      have h3 := this.2.2 (by omega)
      exact ⟨hj, by show pb c f k = c; omega, by show (k : Int) ≤ c; omega⟩
    | succ n ih =>
      intro k hk hj
      show (∀ j : Nat, j < (if pb c f k < c then pnF c f n (k + 1) else k) → _) ∧ pb c f (if pb c f k < c then pnF c f n (k + 1) else k) = c ∧ (((if pb c f k < c then pnF c f n (k + 1) else k) : Nat) : Int) ≤ c
      by_cases h : pb c f k < c
      · rw [if_pos h]
        exact ih (k + 1) (by omega) (fun j hj2 => by
          by_cases e : j = k
          · rw [e]; exact h
          · exact hj j (by omega))
      · rw [if_neg h]
        have := pb_rng (ds := f) hc k
        exact ⟨hj, by omega, by omega⟩
  exact key c.toNat 0 (by omega) (fun j hj => by omega)
theorem kqF_is {c : Int} {f : Int → Int} {x : Int} : ∀ (n k : Nat), (∀ j : Nat, j < k → f (pb c f (j + 1) - 1) < x) → kqF c f x n k ≤ k + n ∧ (∀ j : Nat, j < kqF c f x n k → f (pb c f (j + 1) - 1) < x) ∧ (kqF c f x n k < k + n → x ≤ f (pb c f (kqF c f x n k + 1) - 1)) := by
  intro n
  induction n with
  | zero => intro k hj; exact ⟨Nat.le_refl _, hj, fun h => absurd h (Nat.lt_irrefl _)⟩
  | succ n ih =>
    intro k hj
    by_cases h : f (pb c f (k + 1) - 1) < x
    · rw [kqF_s h]
      have := ih (k + 1) (fun j hj2 => by
        by_cases e : j = k
        · rw [e]; exact h
        · exact hj j (by omega))
      rw [show k + 1 + n = k + (n + 1) by omega] at this
      exact this
    · rw [kqF_e h]
      exact ⟨by omega, hj, fun _ => by omega⟩
theorem qry_lists (S : ASt) (i : Nat) (x : Int) : (qry S i x).2.1 = S.1 := by
  unfold qry
  simp only []
  split
  · split
    · rfl
    · unfold qIn
      simp only []
      split <;> rfl
  · rfl
theorem qry_ans {S : ASt} {i : Nat} {x : Int} (hO : LOk (S.1 i).1 (S.1 i).2) : (qry S i x).1 = dA (S.1 i).1 (S.1 i).2 (cb (S.1 i).1 (S.1 i).2 x) := by
  obtain ⟨p1, p2, p3⟩ := pn_ok (f := (S.1 i).2) hO.1
  obtain ⟨k1, k2, k3⟩ := kqF_is (c := (S.1 i).1) (f := (S.1 i).2) (x := x) (pn (S.1 i).1 (S.1 i).2) 0 (fun j hj => by omega)
  rw [Nat.zero_add] at k1 k3
  have ek : kqF (S.1 i).1 (S.1 i).2 x (pn (S.1 i).1 (S.1 i).2) 0 = kq (S.1 i).1 (S.1 i).2 x := rfl
  rw [ek] at k1 k2 k3
  have below : ∀ k : Nat, k ≤ pn (S.1 i).1 (S.1 i).2 → (∀ j : Nat, j < k → (S.1 i).2 (pb (S.1 i).1 (S.1 i).2 (j + 1) - 1) < x) → ∀ t, 0 ≤ t → t < pb (S.1 i).1 (S.1 i).2 k → (S.1 i).2 t < x := by
    intro k hk hj t t0 t1
    cases k with
    | zero => have : t < 0 := t1; omega
    | succ k =>
      have h1 := hj k (by omega)
      have h2 := pb_rng (ds := (S.1 i).2) hO.1 (k + 1)
      by_cases e : t = pb (S.1 i).1 (S.1 i).2 (k + 1) - 1
      · rw [e]; exact h1
      · have := hO.2.2.2 t (pb (S.1 i).1 (S.1 i).2 (k + 1) - 1) t0 (by omega) (by omega)
        omega
  have bk := below _ k1 k2
  unfold qry
  simp only []
  by_cases h : kq (S.1 i).1 (S.1 i).2 x < pn (S.1 i).1 (S.1 i).2
  · rw [if_pos h]
    by_cases h2 : x ≤ (S.1 i).2 (pb (S.1 i).1 (S.1 i).2 (kq (S.1 i).1 (S.1 i).2 x))
    · rw [if_pos h2]
      have r := pb_rng (ds := (S.1 i).2) hO.1 (kq (S.1 i).1 (S.1 i).2 x)
      have e : pb (S.1 i).1 (S.1 i).2 (kq (S.1 i).1 (S.1 i).2 x) = cb (S.1 i).1 (S.1 i).2 x := cb_eq ⟨r.1, r.2.1, bk, fun _ => h2⟩
      rw [← e, dA_in r.1 (p1 _ h)]
    · rw [if_neg h2]; rfl
  · rw [if_neg h]
    have e : kq (S.1 i).1 (S.1 i).2 x = pn (S.1 i).1 (S.1 i).2 := by omega
    rw [e, p2] at bk
    have e2 : (S.1 i).1 = cb (S.1 i).1 (S.1 i).2 x := cb_eq ⟨hO.1, Int.le_refl _, bk, fun z => by omega⟩
    rw [← e2, dA_out (by omega)]
theorem qry_rng {S : ASt} {i : Nat} {x : Int} (hO : LOk (S.1 i).1 (S.1 i).2) : (qry S i x).1 = -1 ∨ ∃ p, 0 ≤ p ∧ p < (S.1 i).1 ∧ (S.1 i).2 p = (qry S i x).1 ∧ x ≤ (qry S i x).1 ∧ 0 ≤ (qry S i x).1 ∧ (qry S i x).1 ≤ 511 := by
  rw [qry_ans hO]
  obtain ⟨a1, a2, a3, a4⟩ := cb_is (S.1 i).2 x hO.1
  by_cases g : cb (S.1 i).1 (S.1 i).2 x < (S.1 i).1
  · right
    rw [dA_in a1 g]
    have := hO.2.2.1 _ a1 g
    exact ⟨_, a1, g, rfl, a4 g, this.1, this.2⟩
  · left; rw [dA_out (by omega)]
/-- the lists asked, by their numbers of documents -/
def oP (S : ASt) (ls : Int) : Int → Bool := fun k => decide (ls / 2 ^ (k % 4).toNat % 2 = 1) && decide ((S.1 (k % 4).toNat).1 = k / 4)
def ordn (S : ASt) (ls : Int) : Int := (en (oP S ls) 260).1
def ordf (S : ASt) (ls : Int) : Int → Int := fun i => (en (oP S ls) 260).2 i % 4
theorem oP_iff {S : ASt} {ls k : Int} : oP S ls k = true ↔ ls / 2 ^ (k % 4).toNat % 2 = 1 ∧ (S.1 (k % 4).toNat).1 = k / 4 := by
  unfold oP
  rw [Bool.and_eq_true, decide_eq_true_iff, decide_eq_true_iff]
theorem ord_pos {S : ASt} {ls : Int} (h1 : 1 ≤ ls) (h15 : ls ≤ 15) (hL : ∀ i : Nat, i < 4 → LOk (S.1 i).1 (S.1 i).2) : 1 ≤ ordn S ls := by
  have ex : ∃ i : Nat, i < 4 ∧ ls / 2 ^ i % 2 = 1 := by
    apply Classical.byContradiction
    intro hn
    have q0 : ¬ ls / 2 ^ 0 % 2 = 1 := fun z => hn ⟨0, by omega, z⟩
    have q1 : ¬ ls / 2 ^ 1 % 2 = 1 := fun z => hn ⟨1, by omega, z⟩
    have q2 : ¬ ls / 2 ^ 2 % 2 = 1 := fun z => hn ⟨2, by omega, z⟩
    have q3 : ¬ ls / 2 ^ 3 % 2 = 1 := fun z => hn ⟨3, by omega, z⟩
    omega
  obtain ⟨i, hi, hb⟩ := ex
  have hO := hL i hi
  have h0 := hO.1
  have h6 := hO.2.1
  obtain ⟨-, -, -, -, a5⟩ := en_ok (oP S ls) 260
  have e4 : ((4 * (S.1 i).1 + i) % 4).toNat = i := by omega
  obtain ⟨t, t0, t1, -⟩ := a5 (4 * (S.1 i).1 + i) (by omega) (by omega) (oP_iff.mpr ⟨by rw [e4]; exact hb, by rw [e4]; omega⟩)
  unfold ordn
  omega
theorem ord_rng {S : ASt} {ls : Int} {t : Int} (t0 : 0 ≤ t) (t1 : t < ordn S ls) : 0 ≤ ordf S ls t ∧ ordf S ls t < 4 := by
  obtain ⟨-, -, a3, -, -⟩ := en_ok (oP S ls) 260
  have := a3 t t0 t1
  unfold ordf
  omega
theorem ord_le {S : ASt} {ls : Int} : ordn S ls ≤ 4 := by
  obtain ⟨a1, a2, a3, a4, -⟩ := en_ok (oP S ls) 260
  rcases Int.lt_or_le 4 (ordn S ls) with g | g
  · exfalso
    unfold ordn at g
    have key : ∀ x y : Int, 0 ≤ x → x < y → y < (en (oP S ls) 260).1 → (en (oP S ls) 260).2 x % 4 ≠ (en (oP S ls) 260).2 y % 4 := by
      intro x y x0 xy y1 e
      have u := oP_iff.mp (a3 x x0 (by omega)).2.2
      have v := oP_iff.mp (a3 y (by omega) y1).2.2
      have lt := a4 x y x0 xy y1
      rw [e] at u
      have := u.2.symm.trans v.2
      omega
    have h01 := key 0 1 (by omega) (by omega) (by omega)
    have h02 := key 0 2 (by omega) (by omega) (by omega)
    have h03 := key 0 3 (by omega) (by omega) (by omega)
    have h04 := key 0 4 (by omega) (by omega) (by omega)
    have h12 := key 1 2 (by omega) (by omega) (by omega)
    have h13 := key 1 3 (by omega) (by omega) (by omega)
    have h14 := key 1 4 (by omega) (by omega) (by omega)
    have h23 := key 2 3 (by omega) (by omega) (by omega)
    have h24 := key 2 4 (by omega) (by omega) (by omega)
    have h34 := key 3 4 (by omega) (by omega) (by omega)
    omega
  · exact g
def ask (o : Int → Int) (cand : Int) : Nat → Int → Int → ASt → Int × ASt
  | 0, _, y, S => (y, S)
  | f + 1, k, y, S => if y = cand then ask o cand f (k + 1) (qry S (o k).toNat cand).1 (qry S (o k).toNat cand).2 else (y, S)
theorem ask_n {o : Int → Int} {cand k y : Int} {S : ASt} (h : y ≠ cand) : ∀ f : Nat, ask o cand f k y S = (y, S) := by
  intro f
  cases f with
  | zero => rfl
  | succ f => show (if y = cand then _ else _) = _; rw [if_neg h]
theorem ask_y {o : Int → Int} {cand k : Int} {S : ASt} {f : Nat} : ask o cand (f + 1) k cand S = ask o cand f (k + 1) (qry S (o k).toNat cand).1 (qry S (o k).toNat cand).2 := by
  show (if cand = cand then _ else _) = _
  rw [if_pos rfl]
/-- lists as they must be -/
def LSt (S : ASt) : Prop := ∀ i : Nat, i < 4 → LOk (S.1 i).1 (S.1 i).2
theorem LSt_qry {S : ASt} (h : LSt S) (i : Nat) (x : Int) : LSt (qry S i x).2 := by
  intro j hj
  rw [qry_lists]
  exact h j hj
theorem ask_lists {o : Int → Int} {cand : Int} : ∀ (f : Nat) (k y : Int) (S : ASt), (ask o cand f k y S).2.1 = S.1 := by
  intro f
  induction f with
  | zero => intro k y S; rfl
  | succ f ih =>
    intro k y S
    by_cases h : y = cand
    · rw [h, ask_y, ih, qry_lists]
    · rw [ask_n h]
theorem ask_rng {o : Int → Int} {cand : Int} (hc : 0 ≤ cand) (hc5 : cand ≤ 511) : ∀ (f : Nat) (k y : Int) (S : ASt), LSt S → (∀ t, k ≤ t → t < k + f → 0 ≤ o t ∧ o t < 4) → (y = -1 ∨ (cand ≤ y ∧ y ≤ 511)) → (ask o cand f k y S).1 = -1 ∨ (cand ≤ (ask o cand f k y S).1 ∧ (ask o cand f k y S).1 ≤ 511) := by
  intro f
  induction f with
  | zero => intro k y S _ _ h; exact h
  | succ f ih =>
    intro k y S hL ho h
    by_cases e : y = cand
    · rw [e, ask_y]
      refine ih (k + 1) _ _ (LSt_qry hL _ _) (fun t a b => ho t (by omega) (by omega)) ?_
      have hk := ho k (by omega) (by omega)
      rcases qry_rng (x := cand) (hL (o k).toNat (by omega)) with z | ⟨p, -, -, -, z, -, z2⟩
      · exact Or.inl z
      · exact Or.inr ⟨z, z2⟩
    · rw [ask_n e]; exact h
def nxC (cand y : Int) : Int := if y = cand then (if cand + 1 < 512 then cand + 1 else -1) else y
abbrev FSt : Type := Int × Int × (Int → Int) × ASt
def stp2 (o : Int → Int) (cand met : Int) (fn : Int → Int) (r : Int × ASt) : FSt :=
  (if nxC cand r.1 = -1 then -1 else (qry r.2 (o 0).toNat (nxC cand r.1)).1, if r.1 = cand then met + 1 else met, if r.1 = cand then ui fn met cand else fn, if nxC cand r.1 = -1 then r.2 else (qry r.2 (o 0).toNat (nxC cand r.1)).2)
def stp (o : Int → Int) (n : Int) (s : FSt) : FSt := stp2 o s.1 s.2.1 s.2.2.1 (ask o s.1 (n - 1).toNat 1 s.1 s.2.2.2)
def fnd (o : Int → Int) (n : Int) : Nat → FSt → FSt
  | 0, s => s
  | g + 1, s => if s.1 = -1 then s else fnd o n g (stp o n s)
theorem fnd_e {o : Int → Int} {n : Int} {s : FSt} (h : s.1 = -1) : ∀ g : Nat, fnd o n g s = s := by
  intro g
  cases g with
  | zero => rfl
  | succ g => show (if s.1 = -1 then _ else _) = _; rw [if_pos h]
theorem fnd_s {o : Int → Int} {n : Int} {s : FSt} (h : s.1 ≠ -1) {g : Nat} : fnd o n (g + 1) s = fnd o n g (stp o n s) := by
  show (if s.1 = -1 then _ else _) = _
  rw [if_neg h]
/-- after r rounds: the candidate is a document of the first list, at an index of at least r; what is found is below it -/
def FI (L : Nat → Int × (Int → Int)) (o : Int → Int) (r : Int) (s : FSt) : Prop :=
  s.2.2.2.1 = L ∧ (s.1 = -1 ∨ ∃ p, r ≤ p ∧ p < (L (o 0).toNat).1 ∧ (L (o 0).toNat).2 p = s.1) ∧ 0 ≤ r ∧ 0 ≤ s.2.1 ∧ s.2.1 ≤ r ∧ (∀ i, 0 ≤ i → i < s.2.1 → 0 ≤ s.2.2.1 i ∧ s.2.2.1 i ≤ 511 ∧ (s.1 ≠ -1 → s.2.2.1 i < s.1)) ∧ ∀ i j, 0 ≤ i → i < j → j < s.2.1 → s.2.2.1 i < s.2.2.1 j
theorem FI.cand {L : Nat → Int × (Int → Int)} {o : Int → Int} {r : Int} {s : FSt} (h : FI L o r s) (hO : LOk (L (o 0).toNat).1 (L (o 0).toNat).2) (hn : s.1 ≠ -1) : 0 ≤ s.1 ∧ s.1 ≤ 511 ∧ r < 64 := by
  obtain ⟨-, h2, h3, -⟩ := h
  rcases h2 with z | ⟨p, p0, p1, e⟩
  · exact absurd z hn
  · have := hO.2.2.1 p (by omega) p1
    have := hO.2.1
    omega
theorem FI.step {L : Nat → Int × (Int → Int)} {o : Int → Int} {n r : Int} {s : FSt} (h : FI L o r s) (hL : ∀ i : Nat, i < 4 → LOk (L i).1 (L i).2) (ho : ∀ t, 0 ≤ t → t < n → 0 ≤ o t ∧ o t < 4) (hn1 : 1 ≤ n) (hn : s.1 ≠ -1) : FI L o (r + 1) (stp o n s) := by
  have o0 := ho 0 (by omega) (by omega)
  have hO := hL (o 0).toNat (by omega)
  obtain ⟨c0, c5, r6⟩ := h.cand hO hn
  obtain ⟨e1, h2, h3, h4, h5, h6, h7⟩ := h
  obtain ⟨cand, met, fn, S⟩ := s
  obtain ⟨p, p0, p1, ep⟩ : ∃ p, r ≤ p ∧ p < (L (o 0).toNat).1 ∧ (L (o 0).toNat).2 p = cand := by
    rcases h2 with z | z
    · exact absurd z hn
    · exact z
  simp only [] at hn c0 c5 e1 h4 h5 h6 h7
  have hLS : LSt S := fun i hi => by rw [e1]; exact hL i hi
  have ar := ask_rng (o := o) c0 c5 (n - 1).toNat 1 cand S hLS (fun t a b => ho t (by omega) (by omega)) (Or.inr ⟨Int.le_refl _, c5⟩)
  have al := ask_lists (o := o) (cand := cand) (n - 1).toNat 1 cand S
  show FI L o (r + 1) (stp2 o cand met fn (ask o cand (n - 1).toNat 1 cand S))
  generalize ask o cand (n - 1).toNat 1 cand S = R at ar al ⊢
  obtain ⟨y, S1⟩ := R
  simp only [] at ar al
  have l1 : S1.1 = L := al.trans e1
  have nx : nxC cand y = -1 ∨ (cand < nxC cand y ∧ nxC cand y ≤ 511) := by
    unfold nxC
    by_cases g : y = cand
    · rw [if_pos g]
      by_cases g2 : cand + 1 < 512
      · rw [if_pos g2]; omega
      · rw [if_neg g2]; omega
    · rw [if_neg g]; omega
  have found : ∀ cand' : Int, (cand' = -1 ∨ cand < cand') → (∀ i, 0 ≤ i → i < (if y = cand then met + 1 else met) → 0 ≤ (if y = cand then ui fn met cand else fn) i ∧ (if y = cand then ui fn met cand else fn) i ≤ 511 ∧ (cand' ≠ -1 → (if y = cand then ui fn met cand else fn) i < cand')) := by
    intro cand' hc i i0 i1
    by_cases g : y = cand
    · rw [if_pos g] at i1 ⊢
      unfold ui
      by_cases e : i = met
      · rw [if_pos e]; exact ⟨c0, c5, fun _ => by omega⟩
      · rw [if_neg e]
        have := h6 i i0 (by omega)
        exact ⟨this.1, this.2.1, fun _ => by have := this.2.2 hn; omega⟩
    · rw [if_neg g] at i1 ⊢
      have := h6 i i0 i1
      exact ⟨this.1, this.2.1, fun _ => by have := this.2.2 hn; omega⟩
  have asc : ∀ i j, 0 ≤ i → i < j → j < (if y = cand then met + 1 else met) → (if y = cand then ui fn met cand else fn) i < (if y = cand then ui fn met cand else fn) j := by
    intro i j i0 ij j1
    by_cases g : y = cand
    · rw [if_pos g] at j1 ⊢
      unfold ui
      rw [if_neg (by omega)]
      by_cases e : j = met
      · rw [if_pos e]; exact (h6 i i0 (by omega)).2.2 hn
      · rw [if_neg e]; exact h7 i j i0 ij (by omega)
    · rw [if_neg g] at j1 ⊢
      exact h7 i j i0 ij j1
  have mt : 0 ≤ (if y = cand then met + 1 else met) ∧ (if y = cand then met + 1 else met) ≤ r + 1 := by
    by_cases g : y = cand
    · rw [if_pos g]; omega
    · rw [if_neg g]; omega
  by_cases hx : nxC cand y = -1
  · have es : stp2 o cand met fn (y, S1) = (-1, if y = cand then met + 1 else met, if y = cand then ui fn met cand else fn, S1) := by
      unfold stp2; simp only []; rw [if_pos hx, if_pos hx]
    rw [es]
    exact ⟨l1, Or.inl rfl, by omega, mt.1, mt.2, found (-1) (Or.inl rfl), asc⟩
  · have nx2 : cand < nxC cand y ∧ nxC cand y ≤ 511 := by rcases nx with z | z; exact absurd z hx; exact z
    have es : stp2 o cand met fn (y, S1) = ((qry S1 (o 0).toNat (nxC cand y)).1, if y = cand then met + 1 else met, if y = cand then ui fn met cand else fn, (qry S1 (o 0).toNat (nxC cand y)).2) := by
      unfold stp2; simp only []; rw [if_neg hx, if_neg hx]
    rw [es]
    have hO1 : LOk (S1.1 (o 0).toNat).1 (S1.1 (o 0).toNat).2 := by rw [l1]; exact hO
    have q := qry_rng (x := nxC cand y) hO1
    rw [l1] at q
    refine ⟨(qry_lists _ _ _).trans l1, ?_, by omega, mt.1, mt.2, found _ ?_, asc⟩
    · rcases q with z | ⟨p', q0, q1, q2, q3, q4, q5⟩
      · exact Or.inl z
      · right
        refine ⟨p', ?_, q1, q2⟩
        rcases Int.lt_or_le p p' with g | g
        · omega
        · exfalso
          by_cases g2 : p' = p
          · rw [g2, ep] at q2; omega
          · have := hO.2.2.2 p' p q0 (by omega) p1; omega
    · rcases q with z | ⟨p', q0, q1, q2, q3, q4, q5⟩
      · exact Or.inl z
      · right; show cand < (qry S1 (o 0).toNat (nxC cand y)).1; omega
theorem FI.LOk {L : Nat → Int × (Int → Int)} {o : Int → Int} {r : Int} {s : FSt} (h : FI L o r s) (hr : r ≤ 64) : LOk s.2.1 s.2.2.1 := by
  obtain ⟨-, -, -, h4, h5, h6, h7⟩ := h
  exact ⟨h4, by omega, fun i a b => ⟨(h6 i a b).1, (h6 i a b).2.1⟩, h7⟩
def isc0 (S : ASt) (ls : Int) : FSt := ((qry S (ordf S ls 0).toNat 0).1, 0, fun _ => 0, (qry S (ordf S ls 0).toNat 0).2)
def isc (S : ASt) (ls : Int) : FSt := fnd (ordf S ls) (ordn S ls) 64 (isc0 S ls)
theorem FI0 {S : ASt} {ls : Int} (hL : LSt S) (h1 : 1 ≤ ordn S ls) : FI S.1 (ordf S ls) 0 (isc0 S ls) := by
  have o0 := ord_rng (S := S) (ls := ls) (Int.le_refl 0) (by omega)
  refine ⟨qry_lists _ _ _, ?_, Int.le_refl _, Int.le_refl _, Int.le_refl _, fun i a b => by have : i < 0 := b; omega, fun i j a b d => by have : j < 0 := d; omega⟩
  rcases qry_rng (x := 0) (hL (ordf S ls 0).toNat (by omega)) with z | ⟨p, q0, q1, q2, -⟩
  · exact Or.inl z
  · exact Or.inr ⟨p, q0, q1, q2⟩
theorem fnd_LOk {S : ASt} {ls : Int} (hL : LSt S) (h1 : 1 ≤ ordn S ls) : ∀ (g : Nat) (r : Int) (s : FSt), r + g = 64 → FI S.1 (ordf S ls) r s → LOk (fnd (ordf S ls) (ordn S ls) g s).2.1 (fnd (ordf S ls) (ordn S ls) g s).2.2.1 := by
  intro g
  induction g with
  | zero => intro r s hr h; exact h.LOk (by omega)
  | succ g ih =>
    intro r s hr h
    by_cases e : s.1 = -1
    · rw [fnd_e e]; exact h.LOk (by omega)
    · rw [fnd_s e]
      exact ih (r + 1) _ (by omega) (h.step hL (fun t a b => ord_rng a b) h1 e)
theorem isc_LOk {S : ASt} {ls : Int} (hL : LSt S) (h1 : 1 ≤ ordn S ls) : LOk (isc S ls).2.1 (isc S ls).2.2.1 := fnd_LOk hL h1 64 0 _ (by omega) (FI0 hL h1)
