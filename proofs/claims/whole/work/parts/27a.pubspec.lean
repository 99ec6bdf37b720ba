/-! ===== the reference: what its public methods need ===== -/
theorem hs01 (c : Int) (f : Int → Int) (x : Int) : ∃ z : Int, (if hs c f x = true then (1 : Int) else 0) = z ∧ (z = 0 ∨ z = 1) ∧ (z ≠ 0 ↔ hs c f x = true) := by
  by_cases e : hs c f x = true
  · exact ⟨1, if_pos e, Or.inr rfl, ⟨fun _ => e, fun _ => by decide⟩⟩
  · exact ⟨0, if_neg e, Or.inl rfl, ⟨fun z => absurd rfl z, fun z => absurd z e⟩⟩
theorem flF_z {c : Int} {f : Int → Int} {n : Int} {s : Int} (h : c ≤ s) : ∀ k : Nat, flF c f n k s = 0 := by
  intro k
  cases k with
  | zero => rfl
  | succ k => show (if s < c then _ else _) = _; rw [if_neg (by omega)]
theorem flF_s {c : Int} {f : Int → Int} {n : Int} {s : Int} (h : s < c) (k : Nat) : flF c f n (k + 1) s = psz f s (if s + n < c then s + n else c) + flF c f n k (s + n) := by
  show (if s < c then _ else _) = _
  rw [if_pos h]
/-- with the old capacity put back the row is right -/
theorem WR.cap {w : Int → Int} {S : ASt} {cl : List Int} {cp : Int} (h : WR (ui w 260 S.2.1) (setC S cl)) (e : w 260 = cp) (c0 : 0 ≤ cp) (c8 : cp ≤ 8) (hl : (cl.length : Int) ≤ cp) : WR w (S.1, cp, cl, S.2.2.2.1, S.2.2.2.2) := by
  obtain ⟨h1, h2, h3, h4, h5, h6, h7, h8, h9, h10, h11⟩ := h
  have u : ∀ k : Int, k ≠ 260 → ui w 260 S.2.1 k = w k := fun k hk => by unfold ui; rw [if_neg hk]
  refine ⟨fun i hi => ?_, e, by rw [← u 261 (by omega)]; exact h3, fun k v hk => by rw [← u _ (by omega)]; exact h4 k v hk, by rw [← u 270 (by omega)]; exact h5, by rw [← u 271 (by omega)]; exact h6, c0, c8, hl, h10, h11⟩
  obtain ⟨a, b, d⟩ := h1 i hi
  have := b.2.1
  exact ⟨by rw [← u i (by omega)]; exact a, b, fun j j0 j1 => by
    have : ((setC S cl).1 i).1 ≤ 64 := b.2.1
    have j2 : j < ((setC S cl).1 i).1 := j1
    rw [← u _ (by omega)]; exact d j j0 j1⟩
theorem ui_id {w : Int → Int} {i x : Int} (h : w i = x) : ui w i x = w := by
  funext k
  unfold ui
  by_cases e : k = i
  · rw [if_pos e, e, h]
  · rw [if_neg e]
theorem ui_ui {w : Int → Int} {i x y : Int} : ui (ui w i y) i x = ui w i x := by
  funext k
  unfold ui
  by_cases e : k = i
  · rw [if_pos e, if_pos e]
  · rw [if_neg e, if_neg e, if_neg e]
