/-! ===== State.copyFrom ===== -/
set_option maxRecDepth 4000 in
theorem t_X6_copyFrom (l : Launch) (h : EHp) (s t : Nat) (S T : ASt) (hSA : SA h s S) (hTA : SA h t T) (hst : s + 15 < t ∨ t + 15 < s) : CT l mX6_copyFrom 2 0 0 [.ref (s), .ref (t)] NN h (vP (fun h' => SA h' s T ∧ FrS h h' s)) := by
  have hTA0 := hTA
  obtain ⟨hS, hL, hs, hC, hP⟩ := hSA
  obtain ⟨hS2, hL2, ht, hC2, hP2⟩ := hTA
  refine CT.of (by decide) (Nat.le_of_ble_eq_true rfl) ?_
  refine g_al (al2 := [some (.ref (s)), some (.ref (t)), none]) rfl ?_
  refine g_iconst (q := 1) dX6_copyFrom_0 rfl ?_
  refine g_istore_n (q := 2) (al2 := [some (.ref (s)), some (.ref (t)), some (.int (iI (0)))]) rfl (by decide) rfl rfl dX6_copyFrom_1 rfl ?_
  refine loopG (σ := Nat × EHp) (P := fun zz => match zz with | (i, h1) => G l noX mX6_copyFrom 2 0 0 (vP (fun h' => SA h' s T ∧ FrS h h' s)) 0 0 2 [some (.ref (s)), some (.ref (t)), some (.int (iI (i)))] [] NN h1) (I := fun zz => match zz with | (i, h1) => i ≤ 4 ∧ (∀ j, (j < s + 4 ∨ s + 4 + 3 * i ≤ j) → h1 j = h j) ∧ (∀ j : Nat, j < i → LA h1 (s + 4 + 3 * j) (T.1 j).1 (T.1 j).2)) (fun zz => match zz with | (i, h1) => 4 - i) ?_ (0, h) ⟨Nat.zero_le _, fun _ _ => rfl, fun j z => absurd z (Nat.not_lt_zero _)⟩
  rintro ⟨i, h1⟩ hI ih
  obtain ⟨i1, i2, i3⟩ := hI
  have hS1 : h1 s = _ := (i2 s (by omega)).trans hS
  have hL1 : h1 (s + 1) = _ := (i2 (s + 1) (by omega)).trans hL
  have hTA1 : SA h1 t T := hTA0.moved (fun j a b => i2 j (by omega))
  obtain ⟨hS21, hL21, -, hC21, hP21⟩ := id hTA1
  refine g_iload_n (q := 3) rfl rfl dX6_copyFrom_2 rfl ?_
  refine g_iconst (q := 4) dX6_copyFrom_3 rfl ?_
  refine g_icmp_ge (t := 28) (q := 7) ⟨by omega, by omega⟩ ⟨by omega, by omega⟩ dX6_copyFrom_4 rfl rfl (fun c4 => ?_) (fun c4 => ?_)
  · have e4 : i = 4 := by omega
    subst e4
    have hC1 : CA h1 (s + 2) S.2.1 S.2.2.1 := hC.moved (i2 _ (by omega)) (i2 _ (by omega))
    obtain ⟨ka, kb1, -⟩ := id hC1
    refine g_aload_n (q := 29) rfl rfl dX6_copyFrom_28 rfl ?_
    refine g_get (q := 32) fX6_20r (by show _ < 103; omega) hS1 rfl dX6_copyFrom_29 rfl ?_
    refine g_aload_n (q := 33) rfl rfl dX6_copyFrom_32 rfl ?_
    refine g_get (q := 36) fX6_20r (by show _ < 103; omega) hS21 rfl dX6_copyFrom_33 rfl ?_
    refine g_Vv (q := 39) (d' := 1) (i := s + 2) (av := [.ref (t + 2)]) (st := []) kvX6_36 (t_X0_copyFrom l h1 (s + 2) (t + 2) S.2.1 T.2.1 S.2.2.1 T.2.2.1 hC1 hC21 (by omega)) (by show _ < 103; omega) kb1 rfl (Nat.le_of_ble_eq_true rfl) ⟨(Nat.le_of_ble_eq_true rfl), (Nat.le_of_ble_eq_true rfl)⟩ ⟨(Nat.le_of_ble_eq_true rfl), (Nat.le_of_ble_eq_true rfl)⟩ rfl rfl dX6_copyFrom_36 rfl (fun h2 hp => ?_)
    obtain ⟨hC3, fr3⟩ := hp
    have hS2a : h2 s = _ := (fr3 s (by omega) (by omega)).trans hS1
    have hL2a : h2 (s + 1) = _ := (fr3 (s + 1) (by omega) (by omega)).trans hL1
    have hS2b : h2 t = _ := (fr3 t (by omega) (by omega)).trans hS21
    have hL2b : h2 (t + 1) = _ := (fr3 (t + 1) (by omega) (by omega)).trans hL21
    refine g_aload_n (q := 40) rfl rfl dX6_copyFrom_39 rfl ?_
    refine g_aload_n (q := 41) rfl rfl dX6_copyFrom_40 rfl ?_
    refine g_get (q := 44) fX6_24r (by show _ < 103; omega) hS2b rfl dX6_copyFrom_41 rfl ?_
    refine g_put (q := 47) fX6_24 (by show _ < 103; omega) hS2a (Nat.le_of_ble_eq_true rfl) (fun _ _ => rfl) (fun _ _ => rfl) dX6_copyFrom_44 rfl ?_
    refine hp_in (fun hh1 ehh1 => ?_)
    have fc2 : hh1 s = cO 5 [.ref (s + 1), .ref (s + 2), .int (iI (T.2.2.2.1)), .int (iI (S.2.2.2.2))] := by rw [ehh1]; exact ueh_s
    have fc3 : hh1 (s + 1) = cR 4 4 (lref s) := by rw [ehh1, ueh_n (by omega)]; exact hL2a
    have fc4 : hh1 t = cO 5 [.ref (t + 1), .ref (t + 2), .int (iI (T.2.2.2.1)), .int (iI (T.2.2.2.2))] := by rw [ehh1, ueh_n (by omega)]; exact hS2b
    have fc5 : hh1 (t + 1) = cR 4 4 (lref t) := by rw [ehh1, ueh_n (by omega)]; exact hL2b
    refine g_aload_n (q := 48) rfl rfl dX6_copyFrom_47 rfl ?_
    refine g_aload_n (q := 49) rfl rfl dX6_copyFrom_48 rfl ?_
    refine g_get (q := 52) fX6_28r (by show _ < 103; omega) fc4 rfl dX6_copyFrom_49 rfl ?_
    refine g_put (q := 55) fX6_28 (by show _ < 103; omega) fc2 (Nat.le_of_ble_eq_true rfl) (fun _ _ => rfl) (fun _ _ => rfl) dX6_copyFrom_52 rfl ?_
    refine hp_in (fun hh6 ehh6 => ?_)
    have fc7 : hh6 s = cO 5 [.ref (s + 1), .ref (s + 2), .int (iI (T.2.2.2.1)), .int (iI (T.2.2.2.2))] := by rw [ehh6]; exact ueh_s
    have fc8 : hh6 (s + 1) = cR 4 4 (lref s) := by rw [ehh6, ueh_n (by omega)]; exact fc3
    have fc9 : hh6 t = cO 5 [.ref (t + 1), .ref (t + 2), .int (iI (T.2.2.2.1)), .int (iI (T.2.2.2.2))] := by rw [ehh6, ueh_n (by omega)]; exact fc4
    have fc10 : hh6 (t + 1) = cR 4 4 (lref t) := by rw [ehh6, ueh_n (by omega)]; exact fc5
    exact g_vreturn (fun z => NN_f z) (Nat.le_of_ble_eq_true rfl) (Nat.le_of_ble_eq_true rfl) dX6_copyFrom_55 rfl (vP_in ⟨⟨fc7, fc8, hs, hC3.moved (by rw [ehh6, ueh_n (by omega), ehh1, ueh_n (by omega)]) (by rw [ehh6, ueh_n (by omega), ehh1, ueh_n (by omega)]), fun j hj => (i3 j hj).moved (by rw [ehh6, ueh_n (by omega), ehh1, ueh_n (by omega)]; exact fr3 _ (by omega) (by omega)) (by rw [ehh6, ueh_n (by omega), ehh1, ueh_n (by omega)]; exact fr3 _ (by omega) (by omega)) (by rw [ehh6, ueh_n (by omega), ehh1, ueh_n (by omega)]; exact fr3 _ (by omega) (by omega))⟩, fun j hj => by rw [ehh6, ueh_n (by omega), ehh1, ueh_n (by omega)]; rw [fr3 j (by omega) (by omega)]; exact i2 j (by omega)⟩)
  · have hLi : LA h1 (s + 4 + 3 * i) (S.1 i).1 (S.1 i).2 := (hP i (by omega)).moved (i2 _ (by omega)) (i2 _ (by omega)) (i2 _ (by omega))
    have hLt := hP21 i (by omega)
    obtain ⟨m, ds, fa, hA1, -, -, -⟩ := hLi
    obtain ⟨m2, ds2, fa2, hA2, g1, g2, g3⟩ := hLt
    have er : lref s (i : Int) = some (s + 4 + 3 * i) := by unfold lref; rw [if_pos (by omega), Int.toNat_natCast]
    have er2 : lref t (i : Int) = some (t + 4 + 3 * i) := by unfold lref; rw [if_pos (by omega), Int.toNat_natCast]
    have g2m := g2.2.1
    have g20 := g2.1
    have g3m := g3.1
    refine g_aload_n (q := 8) rfl rfl dX6_copyFrom_7 rfl ?_
    refine g_get (q := 11) fX6_11r (by show _ < 103; omega) hS1 rfl dX6_copyFrom_8 rfl ?_
    refine g_iload_n (q := 12) rfl rfl dX6_copyFrom_11 rfl ?_
    refine g_aaload (q := 13) (by show _ < 103; omega) hL1 (Or.inl rfl) (by omega) (by omega) (by decide) er dX6_copyFrom_12 rfl ?_
    refine g_aload_n (q := 14) rfl rfl dX6_copyFrom_13 rfl ?_
    refine g_get (q := 17) fX6_11r (by show _ < 103; omega) hS21 rfl dX6_copyFrom_14 rfl ?_
    refine g_iload_n (q := 18) rfl rfl dX6_copyFrom_17 rfl ?_
    refine g_aaload (q := 19) (by show _ < 103; omega) hL21 (Or.inl rfl) (by omega) (by omega) (by decide) er2 dX6_copyFrom_18 rfl ?_
    refine g_Vv (q := 22) (d' := 1) (i := s + 4 + 3 * i) (av := [.ref (t + 4 + 3 * i)]) (st := []) kvX6_32 (t_X4_copyFrom l h1 (s + 4 + 3 * i) (t + 4 + 3 * i) (S.1 i).1 m (T.1 i).1 m2 ds fa ds2 fa2 hA1 hA2 (by omega) g20 g2m (by omega) (by omega)) (by show _ < 103; omega) hA1.1 rfl (Nat.le_of_ble_eq_true rfl) ⟨(Nat.le_of_ble_eq_true rfl), (Nat.le_of_ble_eq_true rfl)⟩ ⟨(Nat.le_of_ble_eq_true rfl), (Nat.le_of_ble_eq_true rfl)⟩ rfl rfl dX6_copyFrom_19 rfl (fun h2 hp => ?_)
    obtain ⟨hA3, fr3⟩ := hp
    refine g_iinc (q := 25) (al2 := [some (.ref (s)), some (.ref (t)), some (.int (iI (i + 1)))]) rfl (by decide) rfl rfl dX6_copyFrom_22 rfl ?_
    refine g_goto (q := 2) dX6_copyFrom_25 rfl ?_
    exact ih (i + 1, h2) ⟨show i + 1 ≤ 4 by omega, fun j hj => by rw [fr3 j (by omega)]; exact i2 j (by omega), fun j hj => by
      by_cases e : j = i
      · subst e
        refine ⟨m2, _, _, hA3, fun y y0 y1 => ?_, g2, ⟨g3.1, g3.2.1, g3.2.2.1, fun k hk u u0 u6 => ?_⟩⟩
        · unfold cpy; rw [if_pos (by omega), show 0 + (y - 0) = y by omega]; exact g1 y y0 y1
        · unfold cpy; rw [if_pos (by omega), show 0 + ((k : Int) * 6 + u - 0) = (k : Int) * 6 + u by omega]; exact g3.2.2.2 k hk u u0 u6
      · exact (i3 j (by omega)).moved (fr3 _ (by omega)) (fr3 _ (by omega)) (fr3 _ (by omega))⟩ (show 4 - (i + 1) < 4 - i by omega)
