/-! ===== the cache, as a list of numbers ===== -/
def CA (h : EHp) (k : Nat) (cap : Int) (cl : List Int) : Prop := ∃ ks : Int → Int, h k = cO 0 [.ref (k + 1), .int (iI cl.length), .int (iI cap)] ∧ h (k + 1) = cI 8 ks ∧ k + 1 < 103 ∧ (∀ (i : Nat) (v : Int), cl[i]? = some v → ks i = v) ∧ cl.length ≤ 8 ∧ 0 ≤ cap ∧ cap ≤ 8 ∧ ∀ v ∈ cl, 0 ≤ v ∧ v < 400
def Fr2 (h h' : EHp) (k : Nat) : Prop := ∀ j, j ≠ k → j ≠ k + 1 → h' j = h j
def dbp (lo hi : Int) (v : Int) : Bool := decide (v < lo) || decide (hi < v)
def trim (m : Nat) (cl : List Int) : List Int := cl.drop (cl.length - m)
def cUse (cap : Int) (cl : List Int) (key : Int) : List Int := if 0 < cap then trim (cap - 1).toNat (cl.filter (dbp key key)) ++ [key] else cl.filter (dbp key key)
theorem trim_len (m : Nat) (cl : List Int) : (trim m cl).length = min m cl.length := by
  unfold trim; rw [List.length_drop]; omega
theorem trim_mem {m : Nat} {cl : List Int} {v : Int} (h : v ∈ trim m cl) : v ∈ cl := List.mem_of_mem_drop h
theorem trim_id {m : Nat} {cl : List Int} (h : cl.length ≤ m) : trim m cl = cl := by
  unfold trim; rw [show cl.length - m = 0 by omega]; rfl
theorem CA.moved {h h' : EHp} {k : Nat} {cap : Int} {cl : List Int} (hC : CA h k cap cl) (h1 : h' k = h k) (h2 : h' (k + 1) = h (k + 1)) : CA h' k cap cl := by
  obtain ⟨ks, g1, g2, g3⟩ := hC
  exact ⟨ks, by rw [h1]; exact g1, by rw [h2]; exact g2, g3⟩
theorem CA.in {h : EHp} {k : Nat} {cap : Int} {cl : List Int} {ks : Int → Int} (h1 : h k = cO 0 [.ref (k + 1), .int (iI cl.length), .int (iI cap)]) (h2 : h (k + 1) = cI 8 ks) (h3 : k + 1 < 103) (h4 : ∀ (i : Nat) (v : Int), cl[i]? = some v → ks i = v) (h5 : cl.length ≤ 8) (h6 : 0 ≤ cap) (h7 : cap ≤ 8) (h8 : ∀ v ∈ cl, 0 ≤ v ∧ v < 400) : CA h k cap cl := ⟨ks, h1, h2, h3, h4, h5, h6, h7, h8⟩
theorem take_s {cl : List Int} {i : Nat} {v : Int} (h : cl[i]? = some v) : cl.take (i + 1) = cl.take i ++ [v] := by
  rw [List.take_add_one, h]; rfl
theorem db_hit {cl : List Int} {key : Int} : 0 < (cl.length : Int) - ((cl.filter (dbp key key)).length : Int) ↔ key ∈ cl := by
  induction cl with
  | nil => simp
  | cons a cl ih =>
    have hle := List.length_filter_le (dbp key key) cl
    by_cases h : a = key
    · subst h
      have : dbp a a a = false := by unfold dbp; simp
      simp only [List.filter_cons, this, List.length_cons, List.mem_cons, true_or, iff_true]
      simp only [Bool.false_eq_true, if_false]
      omega
    · have : dbp key key a = true := by
        unfold dbp
        rcases Int.lt_or_gt_of_ne h with g | g
        · simp [g]
        · simp [g]
      simp only [List.filter_cons, this, if_true, List.length_cons, List.mem_cons]
      rw [show (((cl.length + 1 : Nat)) : Int) - (((cl.filter (dbp key key)).length + 1 : Nat) : Int) = (cl.length : Int) - ((cl.filter (dbp key key)).length : Int) by omega, ih]
      constructor
      · exact fun z => Or.inr z
      · rintro (z | z)
        · exact absurd z.symm h
        · exact z
