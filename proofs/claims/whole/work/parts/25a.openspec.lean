/-! ===== the reference: queries ===== -/
theorem WR.reads {w : Int → Int} {S : ASt} (h : WR w S) (v : Int) : WR (ui w 270 v) (S.1, S.2.1, S.2.2.1, v, S.2.2.2.2) := by
  obtain ⟨h1, h2, h3, h4, h5, h6, h7, h8, h9, h10, h11⟩ := h
  have n : ∀ k : Int, k ≠ 270 → ui w 270 v k = w k := fun k hk => by unfold ui; rw [if_neg hk]
  refine ⟨fun i hi => ?_, by rw [n _ (by omega)]; exact h2, by rw [n _ (by omega)]; exact h3, fun k u hk => ?_, by unfold ui; rw [if_pos rfl], by rw [n _ (by omega)]; exact h6, h7, h8, h9, h10, h11⟩
  · obtain ⟨a, b, c⟩ := h1 i hi
    have := b.2.1
    exact ⟨by rw [n _ (by omega)]; exact a, b, fun j j0 j1 => by
      have j1' : j < (S.1 i).1 := j1
      rw [n _ (by omega)]; exact c j j0 j1⟩
  · have hk' : S.2.2.1[k]? = some u := hk
    have := (List.getElem?_eq_some_iff.mp hk').1
    rw [n _ (by omega)]; exact h4 k u hk
theorem WR.hits {w : Int → Int} {S : ASt} (h : WR w S) (v : Int) : WR (ui w 271 v) (S.1, S.2.1, S.2.2.1, S.2.2.2.1, v) := by
  obtain ⟨h1, h2, h3, h4, h5, h6, h7, h8, h9, h10, h11⟩ := h
  have n : ∀ k : Int, k ≠ 271 → ui w 271 v k = w k := fun k hk => by unfold ui; rw [if_neg hk]
  refine ⟨fun i hi => ?_, by rw [n _ (by omega)]; exact h2, by rw [n _ (by omega)]; exact h3, fun k u hk => ?_, by rw [n _ (by omega)]; exact h5, by unfold ui; rw [if_pos rfl], h7, h8, h9, h10, h11⟩
  · obtain ⟨a, b, c⟩ := h1 i hi
    have := b.2.1
    exact ⟨by rw [n _ (by omega)]; exact a, b, fun j j0 j1 => by
      have j1' : j < (S.1 i).1 := j1
      rw [n _ (by omega)]; exact c j j0 j1⟩
  · have hk' : S.2.2.1[k]? = some u := hk
    have := (List.getElem?_eq_some_iff.mp hk').1
    rw [n _ (by omega)]; exact h4 k u hk
theorem WR.push {w : Int → Int} {S : ASt} {key : Int} (h : WR w S) (hl : (S.2.2.1.length : Int) < S.2.1) (hk : ¬ key ∈ S.2.2.1) (k0 : 0 ≤ key) (k4 : key < 400) : WR (ui (ui w (262 + S.2.2.1.length) key) 261 (S.2.2.1.length + 1)) (setC S (S.2.2.1 ++ [key])) := by
  obtain ⟨h1, h2, h3, h4, h5, h6, h7, h8, h9, h10, h11⟩ := h
  have n : ∀ k : Int, k ≠ 261 → k ≠ 262 + S.2.2.1.length → ui (ui w (262 + S.2.2.1.length) key) 261 (S.2.2.1.length + 1) k = w k := fun k a b => by unfold ui; rw [if_neg a, if_neg b]
  refine ⟨fun i hi => ?_, by rw [n _ (by omega) (by omega)]; exact h2, ?_, fun k u hu => ?_, by rw [n _ (by omega) (by omega)]; exact h5, by rw [n _ (by omega) (by omega)]; exact h6, h7, h8, ?_, ?_, fun v hv => ?_⟩
  · obtain ⟨a, b, c⟩ := h1 i hi
    have := b.2.1
    exact ⟨by rw [n _ (by omega) (by omega)]; exact a, b, fun j j0 j1 => by
      have j1' : j < (S.1 i).1 := j1
      rw [n _ (by omega) (by omega)]; exact c j j0 j1⟩
  · show ui _ 261 _ 261 = ((S.2.2.1 ++ [key]).length : Nat)
    unfold ui
    rw [if_pos rfl, List.length_append, List.length_singleton]; omega
  · have hu' : (S.2.2.1 ++ [key])[k]? = some u := hu
    by_cases c : k < S.2.2.1.length
    · rw [List.getElem?_append_left c] at hu'
      rw [n _ (by omega) (by omega)]; exact h4 k u hu'
    · rw [List.getElem?_append_right (by omega)] at hu'
      have c0 : k - S.2.2.1.length = 0 := by
        have := (List.getElem?_eq_some_iff.mp hu').1
        rw [List.length_singleton] at this; omega
      rw [c0] at hu'
      simp at hu'
      unfold ui
      rw [if_neg (by omega), if_pos (by omega)]; exact hu'
  · show ((S.2.2.1 ++ [key]).length : Int) ≤ S.2.1
    rw [List.length_append, List.length_singleton]; omega
  · show (S.2.2.1 ++ [key]).Nodup
    rw [List.nodup_append]
    exact ⟨h10, by simp, fun a ha b hb => by
      rw [List.mem_singleton.mp hb]
      intro e
      rw [e] at ha
      exact hk ha⟩
  · have hv' : v ∈ S.2.2.1 ++ [key] := hv
    rcases List.mem_append.mp hv' with z | z
    · exact h11 v z
    · rw [List.mem_singleton.mp z]; exact ⟨k0, k4⟩
theorem flt_no {cl : List Int} {key : Int} (h : ¬ key ∈ cl) : cl.filter (dbp key key) = cl := by
  apply List.filter_eq_self.mpr
  intro v hv
  have : v ≠ key := fun e => h (e ▸ hv)
  unfold dbp
  simp only [Bool.or_eq_true, decide_eq_true_eq]
  omega
theorem flt_yes {key : Int} : ∀ {cl : List Int} {p : Nat}, cl.Nodup → cl[p]? = some key → cl.filter (dbp key key) = cl.eraseIdx p := by
  intro cl
  induction cl with
  | nil => intro p _ h; simp at h
  | cons v cl ih =>
    intro p hn h
    rw [List.nodup_cons] at hn
    cases p with
    | zero =>
      simp at h
      subst h
      have : ¬ dbp v v v = true := by unfold dbp; simp
      rw [List.filter_cons, if_neg this, List.eraseIdx_cons_zero, flt_no hn.1]
    | succ p =>
      simp at h
      have hm : key ∈ cl := List.mem_of_getElem? h
      have hne : v ≠ key := fun e => hn.1 (e ▸ hm)
      have : dbp key key v = true := by
        unfold dbp
        simp only [Bool.or_eq_true, decide_eq_true_eq]
        omega
      rw [List.filter_cons, if_pos this, List.eraseIdx_cons_succ, ih hn.2 h]
theorem flt_not {cl : List Int} {key : Int} : ¬ key ∈ cl.filter (dbp key key) := by
  intro h
  have := (List.mem_filter.mp h).2
  unfold dbp at this
  simp at this
theorem MLay.moved {h h' : EHp} {i : Nat} {c : Int} {f : Int → Int} (hL : MLay h i c f) (hD : MDoc h' i c f) (e1 : h' 93 = h 93) (e2 : h' 94 = h 94) : MLay h' i c f := by
  obtain ⟨-, bg, mn, g1, g2, g3⟩ := hL
  exact ⟨hD, bg, mn, e1.trans g1, e2.trans g2, g3⟩
/-- the reads of an Elias-Fano partition: which documents have a high part of at least x's -/
theorem hi_ge {c : Int} {f : Int → Int} (hO : LOk c f) {g w x t : Int} (t0 : 0 ≤ t) (t1 : t < c) : (x - g) / 2 ^ w.toNat ≤ (f t - g) / 2 ^ w.toNat ↔ cb c f (g + (x - g) / 2 ^ w.toNat * 2 ^ w.toNat) ≤ t := by
  have hp := p2_pos w.toNat
  obtain ⟨a1, a2, a3, a4⟩ := cb_is f (g + (x - g) / 2 ^ w.toNat * 2 ^ w.toNat) hO.1
  rw [Int.le_ediv_iff_mul_le hp]
  constructor
  · intro h
    rcases Int.lt_or_le t (cb c f (g + (x - g) / 2 ^ w.toNat * 2 ^ w.toNat)) with z | z
    · have := a3 t t0 z; omega
    · exact z
  · intro h
    have h1 := a4 (by omega)
    by_cases e : t = cb c f (g + (x - g) / 2 ^ w.toNat * 2 ^ w.toNat)
    · rw [← e] at h1; omega
    · have := hO.2.2.2 _ t a1 (by omega) t1; omega
theorem lowx {g w x : Int} (h : g ≤ x) : g ≤ g + (x - g) / 2 ^ w.toNat * 2 ^ w.toNat ∧ g + (x - g) / 2 ^ w.toNat * 2 ^ w.toNat ≤ x := by
  have hp := p2_pos w.toNat
  have h1 : 0 ≤ (x - g) / 2 ^ w.toNat := Int.ediv_nonneg (by omega) (by omega)
  have h2 := Int.ediv_mul_le (x - g) (show (2 : Int) ^ w.toNat ≠ 0 by omega)
  have h3 : 0 ≤ (x - g) / 2 ^ w.toNat * 2 ^ w.toNat := Int.mul_nonneg h1 (by omega)
  omega
