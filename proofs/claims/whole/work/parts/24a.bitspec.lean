/-! ===== the reference: bits ===== -/
theorem ind_step {A B A' : Prop} {x y : Int} (hx : x = ind A) (hy : (B ∧ y = 1) ∨ (¬ B ∧ y = 0)) (hA : A' ↔ A ∨ B) : (if x = 0 then y else 1) = ind A' := by
  rw [hx]
  by_cases a : A
  · rw [ind_t a, if_neg (by decide), ind_t (hA.mpr (Or.inl a))]
  · rw [ind_f a, if_pos rfl]
    rcases hy with ⟨b, e⟩ | ⟨b, e⟩
    · rw [e, ind_t (hA.mpr (Or.inr b))]
    · rw [e, ind_f (fun z => by rcases hA.mp z with z | z; exact a z; exact b z)]
theorem lb_pos {c : Int} {f : Int → Int} (hO : LOk c f) {s e q : Int} (h0 : 0 ≤ s) (h1 : s < e) (h2 : e ≤ c) (hk : knd (e - s) (wd f s e) = 2) (q0 : hiL (e - s) (wd f s e) (lb (e - s) (wd f s e)) ≤ q) (q1 : q < psz f s e - 26) : 0 < lb (e - s) (wd f s e) ∧ (q - hiL (e - s) (wd f s e) (lb (e - s) (wd f s e))) / lb (e - s) (wd f s e) < e - s := by
  have g := hO.wid h0 h1 h2
  have ewf : wd f s e = f (e - 1) - f s + 1 := rfl
  obtain ⟨l1, l2, l3, l4⟩ := lb_spec (n := e - s) (u := wd f s e) (by omega) (by omega) (by omega)
  have pk := psz_knd (ds := f) (s := s) (e := e)
  have ep : psz f s e = 26 + (hiL (e - s) (wd f s e) (lb (e - s) (wd f s e)) + (e - s) * lb (e - s) (wd f s e)) := by
    rcases pk with z | z | z
    · omega
    · omega
    · exact z.2
  have hl0 : 0 < lb (e - s) (wd f s e) := by
    rcases Int.lt_or_le 0 (lb (e - s) (wd f s e)) with z | z
    · exact z
    · have e0 : lb (e - s) (wd f s e) = 0 := by omega
      rw [e0] at ep q0
      omega
  exact ⟨hl0, Int.ediv_lt_of_lt_mul hl0 (by omega)⟩
theorem hiL_rng {n u w : Int} (hn : 1 ≤ n) (hn6 : n ≤ 64) (hu : 1 ≤ u) (h5 : u ≤ 512) : 0 ≤ hiL n u w ∧ hiL n u w ≤ 600 := by
  have := div2_nn (a := u - 1) (w := w) (by omega)
  unfold hiL
  omega
theorem cbtF_in {c : Int} {f : Int → Int} {n p : Nat} {k : Int} (h : k < psz f (pb c f p) (pb c f (p + 1))) : cbtF c f (n + 1) p k = pbit f (pb c f p) (pb c f (p + 1)) k := by
  show (if k < psz f (pb c f p) (pb c f (p + 1)) then _ else _) = _
  rw [if_pos h]
theorem cbtF_out {c : Int} {f : Int → Int} {n p : Nat} {k : Int} (h : ¬ k < psz f (pb c f p) (pb c f (p + 1))) : cbtF c f (n + 1) p k = cbtF c f n (p + 1) (k - psz f (pb c f p) (pb c f (p + 1))) := by
  show (if k < psz f (pb c f p) (pb c f (p + 1)) then _ else _) = _
  rw [if_neg h]
