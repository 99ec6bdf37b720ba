/-! ===== the saved states ===== -/
def sref (g : Nat) : Int → Option Nat := fun i => if 0 ≤ i ∧ i < 4 then some (g + 2 + 16 * i.toNat) else none
def HA (h : EHp) (g nx : Nat) (sv : List ASt) : Prop := ∃ T : Nat → ASt, h g = cO 2 [.ref (g + 1), .int (iI nx), .int (iI sv.length)] ∧ h (g + 1) = cR 5 4 (sref g) ∧ nx < 4 ∧ sv.length ≤ 4 ∧ (∀ i : Nat, i < 4 → SA h (g + 2 + 16 * i) (T i)) ∧ (∀ (j : Nat) (v : ASt), sv[j]? = some v → T ((nx + 3 - j) % 4) = v) ∧ g + 65 < 103
def FrH (h h' : EHp) (g : Nat) : Prop := ∀ j, (j < g ∨ g + 65 < j) → h' j = h j
theorem HA.moved {h h' : EHp} {g nx : Nat} {sv : List ASt} (hH : HA h g nx sv) (hq : ∀ j, g ≤ j → j ≤ g + 65 → h' j = h j) : HA h' g nx sv := by
  obtain ⟨T, g1, g2, g3, g4, g5, g6, g7⟩ := hH
  exact ⟨T, by rw [hq g (by omega) (by omega)]; exact g1, by rw [hq (g + 1) (by omega) (by omega)]; exact g2, g3, g4, fun i hi => (g5 i hi).moved (fun j a b => hq j (by omega) (by omega)), g6, g7⟩
theorem sref_at {g i : Nat} (hi : i < 4) : sref g (i : Int) = some (g + 2 + 16 * i) := by unfold sref; rw [if_pos (by omega), Int.toNat_natCast]
def nxU (nx : Nat) : Nat := if nx + 1 < 4 then nx + 1 else 0
def nxD (nx : Nat) : Nat := if 0 < nx then nx - 1 else 3
theorem take4 {S : ASt} {sv : List ASt} {j : Nat} {v : ASt} (h : ((S :: sv).take 4)[j]? = some v) : (j = 0 ∧ v = S) ∨ (∃ i, j = i + 1 ∧ i < 3 ∧ sv[i]? = some v) := by
  have hj : j < 4 := by
    have := (List.getElem?_eq_some_iff.mp h).1
    rw [List.length_take] at this
    omega
  rw [List.getElem?_take, if_pos hj] at h
  cases j with
  | zero => left; simp at h; exact ⟨rfl, h.symm⟩
  | succ i => right; simp at h; exact ⟨i, rfl, by omega, h⟩
def uT (T : Nat → ASt) (n : Nat) (S : ASt) : Nat → ASt := fun i => if i = n then S else T i
theorem uT_s {T : Nat → ASt} {n i : Nat} {S : ASt} (h : i = n) : uT T n S i = S := if_pos h
theorem uT_n {T : Nat → ASt} {n i : Nat} {S : ASt} (h : i ≠ n) : uT T n S i = T i := if_neg h
