/-! ===== the reference: intersections ===== -/
theorem MRep.scr {h h' : EHp} {th : Int} {S : ASt} {sv : List ASt} {fd od : Int → Int} (hM : MRep h th S sv) (h1 : h' 99 = cI 128 fd) (h2 : h' 100 = cI 4 od) (fr : ∀ j, j ≠ 99 → j ≠ 100 → h' j = h j) : MRep h' th S sv := by
  obtain ⟨w, pst, bg, mn, lz, hA, ⟨m1, m2, m3, m4, m5⟩, ⟨⟨cs, s1⟩, ⟨ct, s2⟩, ⟨nx, s3⟩, -, -⟩, hW, hP, hY⟩ := hM
  exact ⟨w, pst, bg, mn, lz, (fr 90 (by decide) (by decide)).trans hA, ⟨(fr 91 (by decide) (by decide)).trans m1, (fr 92 (by decide) (by decide)).trans m2, (fr 93 (by decide) (by decide)).trans m3, (fr 94 (by decide) (by decide)).trans m4, (fr 95 (by decide) (by decide)).trans m5⟩, ⟨⟨cs, (fr 96 (by decide) (by decide)).trans s1⟩, ⟨ct, (fr 97 (by decide) (by decide)).trans s2⟩, ⟨nx, (fr 98 (by decide) (by decide)).trans s3⟩, ⟨fd, h1⟩, ⟨od, h2⟩⟩, hW, hP, hY⟩
theorem en_up {p : Int → Bool} {k : Nat} : ∀ n : Nat, (en p k).1 ≤ (en p (k + n)).1 := by
  intro n
  induction n with
  | zero => exact Int.le_refl _
  | succ n ih =>
    by_cases h : p ((k + n : Nat) : Int) = true
    · rw [show k + (n + 1) = (k + n) + 1 by omega, en_t h]; show _ ≤ (en p (k + n)).1 + 1; omega
    · rw [show k + (n + 1) = (k + n) + 1 by omega, en_f h]; exact ih
theorem en_up2 {p : Int → Bool} {k m : Nat} (h : k ≤ m) : (en p k).1 ≤ (en p m).1 := by
  have := en_up (p := p) (k := k) (m - k)
  rwa [show k + (m - k) = m by omega] at this
theorem LOk.low {c d : Int} {f : Int → Int} (h : LOk c f) (h0 : 0 ≤ d) (h1 : d ≤ c) : LOk d f := by
  obtain ⟨a, b, e, g⟩ := h
  exact ⟨h0, by omega, fun i x y => e i x (by omega), fun i j x y z => g i j x y (by omega)⟩
theorem MRL.nil {h h' : EHp} {th : Int} {S : ASt} {sv : List ASt} {i : Nat} {w : Int → Int} (f : Int → Int) (hi : i < 4) (hM : MRL h th S sv i) (hw : h 91 = cI 272 w) (hw' : h' 91 = cI 272 (ui w i 0)) (fr : ∀ j, j ≠ 91 → h' j = h j) : MRL h' th (setL S i 0 f) sv i := by
  have hM1 : MRL h th (setL S i (S.1 i).1 (S.1 i).2) sv i := by rw [setL_id]; exact hM
  refine MRL.set hi hM1 ⟨Int.le_refl _, by omega, fun i a b => by omega, fun i j a b d => by omega⟩ fr hw' (by unfold ui; rw [if_pos rfl]) (fun j a b => by omega) (fun w2 e k k1 _ => ?_)
  rw [hw] at e
  have := cI_inj e
  unfold ui; rw [if_neg k1, this]
theorem MRL.as {h : EHp} {th : Int} {S : ASt} {sv : List ASt} {i : Nat} {g : Int → Int} (hi : i < 4) (hM : MRL h th (chg S i) sv i) (ha : Ag (S.1 i).1 (S.1 i).2 g) : MRL h th (setL (chg S i) i (S.1 i).1 g) sv i := by
  have hM1 : MRL h th (setL (chg S i) i ((chg S i).1 i).1 ((chg S i).1 i).2) sv i := by rw [setL_id]; exact hM
  exact MRL.ag hi hM1 ha
