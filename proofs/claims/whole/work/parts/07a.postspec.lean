/-! ===== what is written into a list ===== -/
/-- nothing but the cells a to a + 2 has changed -/
def Fr3 (h h' : EHp) (a : Nat) : Prop := ∀ j, (j < a ∨ a + 2 < j) → h' j = h j
/-- the facts of the partition of the documents from s to ahead of e -/
def fct (ds : Int → Int) (s e : Int) : Int → Int
  | 0 => knd (e - s) (ds (e - 1) - ds s + 1)
  | 1 => e - s
  | 2 => ds s
  | 3 => ds (e - 1)
  | 4 => psz ds s e
  | _ => if knd (e - s) (ds (e - 1) - ds s + 1) = 2 then lb (e - s) (ds (e - 1) - ds s + 1) else 0
/-- the reads inside a partition of the kind kd, its first document f, its low bits w -/
def rdI (c : Int) (ds : Int → Int) (kd f w x ans : Int) : Int :=
  if kd = 1 then (dA c ds ans - f) / 8 - (x - f) / 8 + 1 else if kd = 2 then 1 + ans - cb c ds (f + (x - f) / 2 ^ w.toNat * 2 ^ w.toNat) + 1 else 0
theorem PA.moved {h h' : EHp} {a b : Nat} {c m : Int} {ds fa : Int → Int} (hA : PA h b c m ds fa) (hF : Fr3 h h' a) (hd : b + 2 < a ∨ a + 2 < b) : PA h' b c m ds fa := by
  obtain ⟨h1, h2, h3, h4⟩ := hA
  exact ⟨by rw [hF b (by omega)]; exact h1, by rw [hF (b + 1) (by omega)]; exact h2, by rw [hF (b + 2) (by omega)]; exact h3, h4⟩
