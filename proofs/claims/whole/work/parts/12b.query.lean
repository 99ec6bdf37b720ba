/-! ===== State.query ===== -/
set_option maxRecDepth 4000 in
theorem t_X6_queryInside (l : Launch) (h : EHp) (s i k : Nat) (S : ASt) (hSA : SA h s S) (hi : i < 4) (x : Int) (hx0 : 0 ≤ x) (hx1 : x ≤ 511) (hk : k < pn (S.1 i).1 (S.1 i).2) (hf : (S.1 i).2 (pb (S.1 i).1 (S.1 i).2 k) < x) (hl : x ≤ (S.1 i).2 (pb (S.1 i).1 (S.1 i).2 (k + 1) - 1)) : CT l mX6_queryInside 3 0 0 [.ref (s), .int (iI (i)), .int (iI (k)), .int (iI (x))] NN h (wP (fun v h' => v = .int (iI (qIn S i k x).1) ∧ SA h' s (qIn S i k x).2 ∧ FrS h h' s)) := by
  obtain ⟨hS, hL, hs, hC, hP⟩ := hSA
  obtain ⟨m, ds, fa, hA, hag, hO, hFO⟩ := hP i hi
  have em := hFO.pn
  rw [← em] at hk
  obtain ⟨k0, k1, k2⟩ := hFO.lt hO hk
  have hOd := ag_LOk hag hO
  have er : lref s (i : Int) = some (s + 4 + 3 * i) := by unfold lref; rw [if_pos (by omega), Int.toNat_natCast]
  have hm := hFO.1
  have hO2 := hO.2.1
  obtain ⟨ka, kb, -⟩ := id hC
  obtain ⟨b1, b2, b3, b4⟩ := cb_is (S.1 i).2 x hO.1
  have b5 : cb (S.1 i).1 (S.1 i).2 x ≤ pb (S.1 i).1 (S.1 i).2 (k + 1) - 1 := by
    rcases Int.lt_or_le (pb (S.1 i).1 (S.1 i).2 (k + 1) - 1) (cb (S.1 i).1 (S.1 i).2 x) with z | z
    · have := b3 _ (by omega) z
      omega
    · exact z
  have b6 := b4 (by omega)
  have b7 := dA_in (ds := (S.1 i).2) b1 (show cb (S.1 i).1 (S.1 i).2 x < (S.1 i).1 by omega)
  have fr0 := hO.2.2.1 (pb (S.1 i).1 (S.1 i).2 k) k0 (by omega)
  have q0 := hFO.2.2.2 k hk 0 (by decide) (by decide)
  have q2 := hFO.2.2.2 k hk 2 (by decide) (by decide)
  have q5 := hFO.2.2.2 k hk 5 (by decide) (by decide)
  have q2b : fct (S.1 i).2 (pb (S.1 i).1 (S.1 i).2 k) (pb (S.1 i).1 (S.1 i).2 (k + 1)) 2 = (S.1 i).2 (pb (S.1 i).1 (S.1 i).2 k) := rfl
  have q0b : fct (S.1 i).2 (pb (S.1 i).1 (S.1 i).2 k) (pb (S.1 i).1 (S.1 i).2 (k + 1)) 0 = knd _ _ := rfl
  have kr := knd_rng (n := pb (S.1 i).1 (S.1 i).2 (k + 1) - pb (S.1 i).1 (S.1 i).2 k) (u := (S.1 i).2 (pb (S.1 i).1 (S.1 i).2 (k + 1) - 1) - (S.1 i).2 (pb (S.1 i).1 (S.1 i).2 k) + 1)
  have w5 := fct5_rng hO k0 k1 k2
  refine CT.of (by decide) (Nat.le_of_ble_eq_true rfl) ?_
  refine g_al (al2 := [some (.ref (s)), some (.int (iI (i))), some (.int (iI (k))), some (.int (iI (x))), none, none]) rfl ?_
  refine g_aload_n (q := 1) rfl rfl dX6_queryInside_0 rfl ?_
  refine g_get (q := 4) fX6_11r (by show _ < 103; omega) hS rfl dX6_queryInside_1 rfl ?_
  refine g_iload_n (q := 5) rfl rfl dX6_queryInside_4 rfl ?_
  refine g_aaload (q := 6) (by show _ < 103; omega) hL (Or.inl rfl) (by omega) (by omega) (by decide) er dX6_queryInside_5 rfl ?_
  refine g_astore (q := 8) (al2 := [some (.ref (s)), some (.int (iI (i))), some (.int (iI (k))), some (.int (iI (x))), some (.ref (s + 4 + 3 * i)), none]) (by decide) rfl rfl dX6_queryInside_6 rfl ?_
  refine g_aload (q := 10) rfl dX6_queryInside_8 rfl ?_
  refine g_iload_n (q := 11) rfl rfl dX6_queryInside_10 rfl ?_
  refine g_Vr (q := 14) (d' := 0) (i := s + 4 + 3 * i) (av := [.int (iI (x))]) (st := []) (v := .int (iI (cb (S.1 i).1 (S.1 i).2 x))) kvX6_50 (by have := t_X4_countBelow l h (s + 4 + 3 * i) (S.1 i).1 m ds fa hA hOd x ⟨by omega, by omega⟩; rw [ag_cb hag hO.1] at this; exact this) (by show _ < 103; omega) hA.1 rfl (Nat.le_of_ble_eq_true rfl) ⟨(Nat.le_of_ble_eq_true rfl), (Nat.le_of_ble_eq_true rfl)⟩ ⟨(Nat.le_of_ble_eq_true rfl), (Nat.le_of_ble_eq_true rfl)⟩ rfl rfl dX6_queryInside_11 rfl ?_
  refine g_istore (q := 16) (al2 := [some (.ref (s)), some (.int (iI (i))), some (.int (iI (k))), some (.int (iI (x))), some (.ref (s + 4 + 3 * i)), some (.int (iI (cb (S.1 i).1 (S.1 i).2 x)))]) (by decide) rfl rfl dX6_queryInside_14 rfl ?_
  refine g_aload_n (q := 17) rfl rfl dX6_queryInside_16 rfl ?_
  refine g_get (q := 20) fX6_20r (by show _ < 103; omega) hS rfl dX6_queryInside_17 rfl ?_
  refine g_bipush (q := 22) (by decide) dX6_queryInside_20 rfl ?_
  refine g_iload_n (q := 23) rfl rfl dX6_queryInside_22 rfl ?_
  refine g_imul (q := 24) dX6_queryInside_23 rfl ?_
  refine g_iload_n (q := 25) rfl rfl dX6_queryInside_24 rfl ?_
  refine g_iadd (q := 26) dX6_queryInside_25 rfl ?_
  refine g_Vw (q := 29) (d' := 2) (i := s + 2) (av := [.int (iI ((100 * i) + k))]) (st := []) kvX6_54 (t_X0_use l h (s + 2) S.2.1 S.2.2.1 hC (100 * i + k) (by omega) (by omega)) (by show _ < 103; omega) kb rfl (Nat.le_of_ble_eq_true rfl) ⟨(Nat.le_of_ble_eq_true rfl), (Nat.le_of_ble_eq_true rfl)⟩ ⟨(Nat.le_of_ble_eq_true rfl), (Nat.le_of_ble_eq_true rfl)⟩ rfl rfl dX6_queryInside_26 rfl (fun v h1 hp => ?_)
  obtain ⟨rfl, hC1, fr1⟩ := hp
  have hS1 : h1 s = _ := (fr1 s (by omega) (by omega)).trans hS
  have hL1 : h1 (s + 1) = _ := (fr1 (s + 1) (by omega) (by omega)).trans hL
  have hA1 : PA h1 (s + 4 + 3 * i) (S.1 i).1 m ds fa := ⟨(fr1 _ (by omega) (by omega)).trans hA.1, (fr1 _ (by omega) (by omega)).trans hA.2.1, (fr1 _ (by omega) (by omega)).trans hA.2.2.1, hA.2.2.2⟩
  have hKr : (if ((100 : Int) * i + k) ∈ S.2.2.1 then (1 : Int) else 0) = 0 ∨ (if ((100 : Int) * i + k) ∈ S.2.2.1 then (1 : Int) else 0) = 1 := by split <;> simp
  refine g_if_eq (t := 45) (q := 32) ⟨by omega, by omega⟩ dX6_queryInside_29 rfl rfl (fun c29 => ?_) (fun c29 => ?_)
  · have nk : ¬ ((100 : Int) * i + k) ∈ S.2.2.1 := fun z => by rw [if_pos z] at c29; omega
    refine g_aload_n (q := 46) rfl rfl dX6_queryInside_45 rfl ?_
    refine g_dup (q := 47) rfl dX6_queryInside_46 rfl ?_
    refine g_get (q := 50) fX6_24r (by show _ < 103; omega) hS1 rfl dX6_queryInside_47 rfl ?_
    refine g_aload (q := 52) rfl dX6_queryInside_50 rfl ?_
    refine g_iload_n (q := 53) rfl rfl dX6_queryInside_52 rfl ?_
    refine g_iload_n (q := 54) rfl rfl dX6_queryInside_53 rfl ?_
    refine g_iload (q := 56) rfl dX6_queryInside_54 rfl ?_
    refine g_Vr (q := 59) (d' := 1) (i := s + 4 + 3 * i) (av := [.int (iI (k)), .int (iI (x)), .int (iI (cb (S.1 i).1 (S.1 i).2 x))]) (st := [.int (iI (S.2.2.2.1)), .ref (s)]) (v := .int (iI (rdI (S.1 i).1 (S.1 i).2 (fct (S.1 i).2 (pb (S.1 i).1 (S.1 i).2 k) (pb (S.1 i).1 (S.1 i).2 (k + 1)) 0) (fct (S.1 i).2 (pb (S.1 i).1 (S.1 i).2 k) (pb (S.1 i).1 (S.1 i).2 (k + 1)) 2) (fct (S.1 i).2 (pb (S.1 i).1 (S.1 i).2 k) (pb (S.1 i).1 (S.1 i).2 (k + 1)) 5) x (cb (S.1 i).1 (S.1 i).2 x)))) kvX6_58 (by have := t_X4_readsInside l h1 (s + 4 + 3 * i) (S.1 i).1 m ds fa hA1 hOd k x (cb (S.1 i).1 (S.1 i).2 x) (by omega) (by omega) (by rw [q2]; omega) (by rw [q2]; omega) hx1 (by rw [q0]; omega) (by rw [q0]; omega) (by rw [q5]; omega) (by rw [q5]; omega) (by omega) (by omega) (by rw [q2, ag_dA hag, b7]; omega); rw [ag_rdI hag hO.1, q0, q2, q5] at this; exact this) (by show _ < 103; omega) hA1.1 rfl (Nat.le_of_ble_eq_true rfl) ⟨(Nat.le_of_ble_eq_true rfl), (Nat.le_of_ble_eq_true rfl)⟩ ⟨(Nat.le_of_ble_eq_true rfl), (Nat.le_of_ble_eq_true rfl)⟩ rfl rfl dX6_queryInside_56 rfl ?_
    refine g_iadd (q := 60) dX6_queryInside_59 rfl ?_
    refine g_put (q := 63) fX6_24 (by show _ < 103; omega) hS1 (Nat.le_of_ble_eq_true rfl) (fun _ _ => rfl) (fun _ _ => rfl) dX6_queryInside_60 rfl ?_
    refine hp_in (fun hh1 ehh1 => ?_)
    have fc2 : hh1 s = cO 5 [.ref (s + 1), .ref (s + 2), .int (iI (S.2.2.2.1 + (rdI (S.1 i).1 (S.1 i).2 (fct (S.1 i).2 (pb (S.1 i).1 (S.1 i).2 k) (pb (S.1 i).1 (S.1 i).2 (k + 1)) 0) (fct (S.1 i).2 (pb (S.1 i).1 (S.1 i).2 k) (pb (S.1 i).1 (S.1 i).2 (k + 1)) 2) (fct (S.1 i).2 (pb (S.1 i).1 (S.1 i).2 k) (pb (S.1 i).1 (S.1 i).2 (k + 1)) 5) x (cb (S.1 i).1 (S.1 i).2 x)))), .int (iI (S.2.2.2.2))] := by rw [ehh1]; exact ueh_s
    have fc3 : hh1 (s + 1) = cR 4 4 (lref s) := by rw [ehh1, ueh_n (by omega)]; exact hL1
    have fc4 : hh1 (s + 4 + 3 * i) = cO 4 [.ref (s + 4 + 3 * i + 1), .int (iI ((S.1 i).1)), .ref (s + 4 + 3 * i + 2), .int (iI (m))] := by rw [ehh1, ueh_n (by omega)]; exact hA1.1
    refine g_aload (q := 65) rfl dX6_queryInside_63 rfl ?_
    refine g_iload (q := 67) rfl dX6_queryInside_65 rfl ?_
    have hA2 : PA hh1 (s + 4 + 3 * i) (S.1 i).1 m ds fa := ⟨by rw [ehh1, ueh_n (by omega)]; exact hA1.1, by rw [ehh1, ueh_n (by omega)]; exact hA1.2.1, by rw [ehh1, ueh_n (by omega)]; exact hA1.2.2.1, hA1.2.2.2⟩
    refine g_Vr (q := 70) (d' := 0) (i := s + 4 + 3 * i) (av := [.int (iI (cb (S.1 i).1 (S.1 i).2 x))]) (st := []) (v := .int (iI (dA (S.1 i).1 (S.1 i).2 (cb (S.1 i).1 (S.1 i).2 x)))) kvX6_61 (by have := t_X4_documentAt l hh1 (s + 4 + 3 * i) (S.1 i).1 m ds fa hA2 hOd (cb (S.1 i).1 (S.1 i).2 x) ⟨by omega, by omega⟩; rw [ag_dA hag] at this; exact this) (by show _ < 103; omega) fc4 rfl (Nat.le_of_ble_eq_true rfl) ⟨(Nat.le_of_ble_eq_true rfl), (Nat.le_of_ble_eq_true rfl)⟩ ⟨(Nat.le_of_ble_eq_true rfl), (Nat.le_of_ble_eq_true rfl)⟩ rfl rfl dX6_queryInside_67 rfl ?_
    have eq2 : (qIn S i k x).2 = (S.1, S.2.1, cUse S.2.1 S.2.2.1 ((100 : Int) * i + k), S.2.2.2.1 + rdI (S.1 i).1 (S.1 i).2 (fct (S.1 i).2 (pb (S.1 i).1 (S.1 i).2 k) (pb (S.1 i).1 (S.1 i).2 (k + 1)) 0) (fct (S.1 i).2 (pb (S.1 i).1 (S.1 i).2 k) (pb (S.1 i).1 (S.1 i).2 (k + 1)) 2) (fct (S.1 i).2 (pb (S.1 i).1 (S.1 i).2 k) (pb (S.1 i).1 (S.1 i).2 (k + 1)) 5) x (cb (S.1 i).1 (S.1 i).2 x), S.2.2.2.2) := by show (if ((100 : Int) * i + k) ∈ S.2.2.1 then _ else _) = _; rw [if_neg nk]
    exact g_ireturn (fun z => NN_f z) (Nat.le_of_ble_eq_true rfl) (Nat.le_of_ble_eq_true rfl) dX6_queryInside_70 rfl (wP_in ⟨rfl, by rw [eq2]; exact ⟨fc2, fc3, hs, hC1.moved (by rw [ehh1, ueh_n (by omega)]) (by rw [ehh1, ueh_n (by omega)]), fun j hj => (hP j hj).moved (by rw [ehh1, ueh_n (by omega)]; exact fr1 _ (by omega) (by omega)) (by rw [ehh1, ueh_n (by omega)]; exact fr1 _ (by omega) (by omega)) (by rw [ehh1, ueh_n (by omega)]; exact fr1 _ (by omega) (by omega))⟩, fun j hj => by rw [ehh1, ueh_n (by omega)]; exact fr1 j (by omega) (by omega)⟩)
  · have yk : ((100 : Int) * i + k) ∈ S.2.2.1 := Classical.byContradiction (fun z => by rw [if_neg z] at c29; omega)
    refine g_aload_n (q := 33) rfl rfl dX6_queryInside_32 rfl ?_
    refine g_dup (q := 34) rfl dX6_queryInside_33 rfl ?_
    refine g_get (q := 37) fX6_28r (by show _ < 103; omega) hS1 rfl dX6_queryInside_34 rfl ?_
    refine g_iconst (q := 38) dX6_queryInside_37 rfl ?_
    refine g_iadd (q := 39) dX6_queryInside_38 rfl ?_
    refine g_put (q := 42) fX6_28 (by show _ < 103; omega) hS1 (Nat.le_of_ble_eq_true rfl) (fun _ _ => rfl) (fun _ _ => rfl) dX6_queryInside_39 rfl ?_
    refine hp_in (fun hh5 ehh5 => ?_)
    have fc6 : hh5 s = cO 5 [.ref (s + 1), .ref (s + 2), .int (iI (S.2.2.2.1)), .int (iI (S.2.2.2.2 + 1))] := by rw [ehh5]; exact ueh_s
    have fc7 : hh5 (s + 1) = cR 4 4 (lref s) := by rw [ehh5, ueh_n (by omega)]; exact hL1
    have fc8 : hh5 (s + 4 + 3 * i) = cO 4 [.ref (s + 4 + 3 * i + 1), .int (iI ((S.1 i).1)), .ref (s + 4 + 3 * i + 2), .int (iI (m))] := by rw [ehh5, ueh_n (by omega)]; exact hA1.1
    refine g_goto (q := 63) dX6_queryInside_42 rfl ?_
    refine g_aload (q := 65) rfl dX6_queryInside_63 rfl ?_
    refine g_iload (q := 67) rfl dX6_queryInside_65 rfl ?_
    have hA2 : PA hh5 (s + 4 + 3 * i) (S.1 i).1 m ds fa := ⟨by rw [ehh5, ueh_n (by omega)]; exact hA1.1, by rw [ehh5, ueh_n (by omega)]; exact hA1.2.1, by rw [ehh5, ueh_n (by omega)]; exact hA1.2.2.1, hA1.2.2.2⟩
    refine g_Vr (q := 70) (d' := 0) (i := s + 4 + 3 * i) (av := [.int (iI (cb (S.1 i).1 (S.1 i).2 x))]) (st := []) (v := .int (iI (dA (S.1 i).1 (S.1 i).2 (cb (S.1 i).1 (S.1 i).2 x)))) kvX6_61 (by have := t_X4_documentAt l hh5 (s + 4 + 3 * i) (S.1 i).1 m ds fa hA2 hOd (cb (S.1 i).1 (S.1 i).2 x) ⟨by omega, by omega⟩; rw [ag_dA hag] at this; exact this) (by show _ < 103; omega) fc8 rfl (Nat.le_of_ble_eq_true rfl) ⟨(Nat.le_of_ble_eq_true rfl), (Nat.le_of_ble_eq_true rfl)⟩ ⟨(Nat.le_of_ble_eq_true rfl), (Nat.le_of_ble_eq_true rfl)⟩ rfl rfl dX6_queryInside_67 rfl ?_
    have eq2 : (qIn S i k x).2 = (S.1, S.2.1, cUse S.2.1 S.2.2.1 ((100 : Int) * i + k), S.2.2.2.1, S.2.2.2.2 + 1) := by show (if ((100 : Int) * i + k) ∈ S.2.2.1 then _ else _) = _; rw [if_pos yk]
    exact g_ireturn (fun z => NN_f z) (Nat.le_of_ble_eq_true rfl) (Nat.le_of_ble_eq_true rfl) dX6_queryInside_70 rfl (wP_in ⟨rfl, by rw [eq2]; exact ⟨fc6, fc7, hs, hC1.moved (by rw [ehh5, ueh_n (by omega)]) (by rw [ehh5, ueh_n (by omega)]), fun j hj => (hP j hj).moved (by rw [ehh5, ueh_n (by omega)]; exact fr1 _ (by omega) (by omega)) (by rw [ehh5, ueh_n (by omega)]; exact fr1 _ (by omega) (by omega)) (by rw [ehh5, ueh_n (by omega)]; exact fr1 _ (by omega) (by omega))⟩, fun j hj => by rw [ehh5, ueh_n (by omega)]; exact fr1 j (by omega) (by omega)⟩)
set_option maxRecDepth 4000 in
theorem t_X6_query (l : Launch) (h : EHp) (s i : Nat) (S : ASt) (hSA : SA h s S) (hi : i < 4) (x : Int) (hx0 : 0 ≤ x) (hx1 : x ≤ 511) : CT l mX6_query 4 0 0 [.ref (s), .int (iI (i)), .int (iI (x))] NN h (wP (fun v h' => v = .int (iI (qry S i x).1) ∧ SA h' s (qry S i x).2 ∧ FrS h h' s)) := by
  have hSA0 := hSA
  obtain ⟨hS, hL, hs, hC, hP⟩ := hSA
  obtain ⟨m, ds, fa, hA, hag, hO, hFO⟩ := hP i hi
  have em := hFO.pn
  have hm := hFO.1
  have hO2 := hO.2.1
  have hOd := ag_LOk hag hO
  have er : lref s (i : Int) = some (s + 4 + 3 * i) := by unfold lref; rw [if_pos (by omega), Int.toNat_natCast]
  refine CT.of (by decide) (Nat.le_of_ble_eq_true rfl) ?_
  refine g_al (al2 := [some (.ref (s)), some (.int (iI (i))), some (.int (iI (x))), none, none, none]) rfl ?_
  refine g_aload_n (q := 1) rfl rfl dX6_query_0 rfl ?_
  refine g_get (q := 4) fX6_11r (by show _ < 103; omega) hS rfl dX6_query_1 rfl ?_
  refine g_iload_n (q := 5) rfl rfl dX6_query_4 rfl ?_
  refine g_aaload (q := 6) (by show _ < 103; omega) hL (Or.inl rfl) (by omega) (by omega) (by decide) er dX6_query_5 rfl ?_
  refine g_astore_n (q := 7) (al2 := [some (.ref (s)), some (.int (iI (i))), some (.int (iI (x))), some (.ref (s + 4 + 3 * i)), none, none]) rfl (by decide) rfl rfl dX6_query_6 rfl ?_
  refine g_iconst (q := 8) dX6_query_7 rfl ?_
  refine g_istore (q := 10) (al2 := [some (.ref (s)), some (.int (iI (i))), some (.int (iI (x))), some (.ref (s + 4 + 3 * i)), some (.int (iI (0))), none]) (by decide) rfl rfl dX6_query_8 rfl ?_
  refine loopG (σ := Nat × EHp) (P := fun zz => match zz with | (k, h1) => G l noX mX6_query 4 0 0 (wP (fun v h' => v = .int (iI (qry S i x).1) ∧ SA h' s (qry S i x).2 ∧ FrS h h' s)) 0 0 10 [some (.ref (s)), some (.int (iI (i))), some (.int (iI (x))), some (.ref (s + 4 + 3 * i)), some (.int (iI (k))), none] [] NN h1) (I := fun zz => match zz with | (k, h1) => k ≤ m ∧ kq (S.1 i).1 (S.1 i).2 x = kqF (S.1 i).1 (S.1 i).2 x (m - k) k ∧ SA h1 s (addR S k) ∧ FrS h h1 s) (fun zz => match zz with | (k, h1) => m - k) ?_ (0, h) ⟨Nat.zero_le _, by unfold kq; rw [← em]; rfl, by unfold addR; rw [show S.2.2.2.1 + ((0 : Nat) : Int) = S.2.2.2.1 by omega]; exact hSA0, fun _ _ => rfl⟩
  rintro ⟨k, h1⟩ hI ih
  obtain ⟨i1, i2, hSA1, fr1⟩ := hI
  have hSA10 := hSA1
  obtain ⟨hS1, hL1, -, hC1, hP1⟩ := hSA1
  obtain ⟨m1, ds1, fa1, hA1, hag1, hO1, hFO1⟩ : LA h1 (s + 4 + 3 * i) (S.1 i).1 (S.1 i).2 := hP1 i hi
  have em1 : m1 = m := hFO1.pn.trans em.symm
  subst em1
  refine g_iload (q := 12) rfl dX6_query_10 rfl ?_
  refine g_aload_n (q := 13) rfl rfl dX6_query_12 rfl ?_
  refine g_get (q := 16) fX6_39r (by show _ < 103; omega) hA1.1 rfl dX6_query_13 rfl ?_
  refine g_icmp_ge (t := 75) (q := 19) ⟨by omega, by omega⟩ ⟨by omega, by omega⟩ dX6_query_16 rfl rfl (fun c16 => ?_) (fun c16 => ?_)
  · have ek : k = m1 := by omega
    subst ek
    have e1 : kq (S.1 i).1 (S.1 i).2 x = k := by rw [i2, Nat.sub_self]; rfl
    have e2 : qry S i x = (-1, addR S k) := by unfold qry; simp only []; rw [if_neg (by rw [e1, ← em]; omega), e1]
    refine g_iconst (q := 76) dX6_query_75 rfl ?_
    exact g_ireturn (fun z => NN_f z) (Nat.le_of_ble_eq_true rfl) (Nat.le_of_ble_eq_true rfl) dX6_query_76 rfl (wP_in ⟨by rw [e2], by rw [e2]; exact hSA10, fr1⟩)
  · have hk : k < m1 := by omega
    obtain ⟨k0, k1, k2⟩ := hFO1.lt hO1 hk
    have q2 : fa1 ((k : Int) * 6 + 2) = (S.1 i).2 (pb (S.1 i).1 (S.1 i).2 k) := hFO1.2.2.2 k hk 2 (by decide) (by decide)
    have q3 : fa1 ((k : Int) * 6 + 3) = (S.1 i).2 (pb (S.1 i).1 (S.1 i).2 (k + 1) - 1) := hFO1.2.2.2 k hk 3 (by decide) (by decide)
    have r3 := hO.2.2.1 (pb (S.1 i).1 (S.1 i).2 (k + 1) - 1) (by omega) (by omega)
    have r2 := hO.2.2.1 (pb (S.1 i).1 (S.1 i).2 k) (by omega) (by omega)
    have fs : m1 - k = (m1 - (k + 1)) + 1 := by omega
    refine g_aload_n (q := 20) rfl rfl dX6_query_19 rfl ?_
    refine g_dup (q := 21) rfl dX6_query_20 rfl ?_
    refine g_get (q := 24) fX6_24r (by show _ < 103; omega) hS1 rfl dX6_query_21 rfl ?_
    refine g_iconst (q := 25) dX6_query_24 rfl ?_
    refine g_iadd (q := 26) dX6_query_25 rfl ?_
    refine g_put (q := 29) fX6_24 (by show _ < 103; omega) hS1 (Nat.le_of_ble_eq_true rfl) (fun _ _ => rfl) (fun _ _ => rfl) dX6_query_26 rfl ?_
    refine hp_in (fun hh1 ehh1 => ?_)
    have fc2 : hh1 s = cO 5 [.ref (s + 1), .ref (s + 2), .int (iI ((S.2.2.2.1 + k) + 1)), .int (iI (S.2.2.2.2))] := by rw [ehh1]; exact ueh_s
    have fc3 : hh1 (s + 1) = cR 4 4 (lref s) := by rw [ehh1, ueh_n (by omega)]; exact hL1
    have fc4 : hh1 (s + 4 + 3 * i) = cO 4 [.ref (s + 4 + 3 * i + 1), .int (iI ((S.1 i).1)), .ref (s + 4 + 3 * i + 2), .int (iI (m1))] := by rw [ehh1, ueh_n (by omega)]; exact hA1.1
    refine g_aload_n (q := 30) rfl rfl dX6_query_29 rfl ?_
    refine g_iload (q := 32) rfl dX6_query_30 rfl ?_
    refine g_iconst (q := 33) dX6_query_32 rfl ?_
    have hA2 : PA hh1 (s + 4 + 3 * i) (S.1 i).1 m1 ds1 fa1 := ⟨by rw [ehh1, ueh_n (by omega)]; exact hA1.1, by rw [ehh1, ueh_n (by omega)]; exact hA1.2.1, by rw [ehh1, ueh_n (by omega)]; exact hA1.2.2.1, hA1.2.2.2⟩
    have hSA2 : SA hh1 s (addR S ((k : Int) + 1)) := ⟨by show _ = cO 5 [.ref (s + 1), .ref (s + 2), .int (iI (S.2.2.2.1 + ((k : Int) + 1))), .int (iI S.2.2.2.2)]; rw [← Int.add_assoc]; exact fc2, fc3, hs, hC1.moved (by rw [ehh1, ueh_n (by omega)]) (by rw [ehh1, ueh_n (by omega)]), fun j hj => (hP1 j hj).moved (by rw [ehh1, ueh_n (by omega)]) (by rw [ehh1, ueh_n (by omega)]) (by rw [ehh1, ueh_n (by omega)])⟩
    have fr2 : FrS h hh1 s := fun j hj => by rw [ehh1, ueh_n (by omega)]; exact fr1 j hj
    refine g_Vr (q := 36) (d' := 0) (i := s + 4 + 3 * i) (av := [.int (iI (k)), .int (iI (3))]) (st := []) (v := .int (iI ((S.1 i).2 (pb (S.1 i).1 (S.1 i).2 (k + 1) - 1)))) kvX6_42 (by have := t_X4_factOf l hh1 (s + 4 + 3 * i) (S.1 i).1 m1 ds1 fa1 hA2 k 3 (by omega) (by omega) (by decide) (by decide); rw [q3] at this; exact this) (by show _ < 103; omega) fc4 rfl (Nat.le_of_ble_eq_true rfl) ⟨(Nat.le_of_ble_eq_true rfl), (Nat.le_of_ble_eq_true rfl)⟩ ⟨(Nat.le_of_ble_eq_true rfl), (Nat.le_of_ble_eq_true rfl)⟩ rfl rfl dX6_query_33 rfl ?_
    refine g_iload_n (q := 37) rfl rfl dX6_query_36 rfl ?_
    refine g_icmp_lt (t := 69) (q := 40) ⟨by omega, by omega⟩ ⟨by omega, by omega⟩ dX6_query_37 rfl rfl (fun c37 => ?_) (fun c37 => ?_)
    · refine g_iinc (q := 72) (al2 := [some (.ref (s)), some (.int (iI (i))), some (.int (iI (x))), some (.ref (s + 4 + 3 * i)), some (.int (iI (k + 1))), none]) rfl (by decide) rfl rfl dX6_query_69 rfl ?_
      refine g_goto (q := 10) dX6_query_72 rfl ?_
      exact ih (k + 1, hh1) ⟨show k + 1 ≤ m1 by omega, by rw [i2, fs]; exact kqF_s (by omega), hSA2, fr2⟩ (show m1 - (k + 1) < m1 - k by omega)
    · have e1 : kq (S.1 i).1 (S.1 i).2 x = k := by rw [i2, fs]; exact kqF_e (by omega)
      refine g_aload_n (q := 41) rfl rfl dX6_query_40 rfl ?_
      refine g_iload (q := 43) rfl dX6_query_41 rfl ?_
      refine g_iconst (q := 44) dX6_query_43 rfl ?_
      refine g_Vr (q := 47) (d' := 0) (i := s + 4 + 3 * i) (av := [.int (iI (k)), .int (iI (2))]) (st := []) (v := .int (iI ((S.1 i).2 (pb (S.1 i).1 (S.1 i).2 k)))) kvX6_42 (by have := t_X4_factOf l hh1 (s + 4 + 3 * i) (S.1 i).1 m1 ds1 fa1 hA2 k 2 (by omega) (by omega) (by decide) (by decide); rw [q2] at this; exact this) (by show _ < 103; omega) fc4 rfl (Nat.le_of_ble_eq_true rfl) ⟨(Nat.le_of_ble_eq_true rfl), (Nat.le_of_ble_eq_true rfl)⟩ ⟨(Nat.le_of_ble_eq_true rfl), (Nat.le_of_ble_eq_true rfl)⟩ rfl rfl dX6_query_44 rfl ?_
      refine g_istore (q := 49) (al2 := [some (.ref (s)), some (.int (iI (i))), some (.int (iI (x))), some (.ref (s + 4 + 3 * i)), some (.int (iI (k))), some (.int (iI ((S.1 i).2 (pb (S.1 i).1 (S.1 i).2 k))))]) (by decide) rfl rfl dX6_query_47 rfl ?_
      refine g_iload_n (q := 50) rfl rfl dX6_query_49 rfl ?_
      refine g_iload (q := 52) rfl dX6_query_50 rfl ?_
      refine g_icmp_gt (t := 60) (q := 55) ⟨by omega, by omega⟩ ⟨by omega, by omega⟩ dX6_query_52 rfl rfl (fun c52 => ?_) (fun c52 => ?_)
      · have e2 : qry S i x = qIn (addR S ((k : Int) + 1)) i k x := by unfold qry; simp only []; rw [e1, if_pos (by rw [← em]; omega), if_neg (by omega)]
        refine g_aload_n (q := 61) rfl rfl dX6_query_60 rfl ?_
        refine g_iload_n (q := 62) rfl rfl dX6_query_61 rfl ?_
        refine g_iload (q := 64) rfl dX6_query_62 rfl ?_
        refine g_iload_n (q := 65) rfl rfl dX6_query_64 rfl ?_
        refine g_Vw (q := 68) (d' := 3) (i := s) (av := [.int (iI (i)), .int (iI (k)), .int (iI (x))]) (st := []) kvX6_46 (t_X6_queryInside l hh1 s i k (addR S ((k : Int) + 1)) hSA2 hi x hx0 hx1 (by show k < pn (S.1 i).1 (S.1 i).2; rw [← em]; omega) (by show (S.1 i).2 (pb (S.1 i).1 (S.1 i).2 k) < x; omega) (by show x ≤ (S.1 i).2 (pb (S.1 i).1 (S.1 i).2 (k + 1) - 1); omega)) (by show _ < 103; omega) fc2 rfl (Nat.le_of_ble_eq_true rfl) ⟨(Nat.le_of_ble_eq_true rfl), (Nat.le_of_ble_eq_true rfl)⟩ ⟨(Nat.le_of_ble_eq_true rfl), (Nat.le_of_ble_eq_true rfl)⟩ rfl rfl dX6_query_65 rfl (fun v h3 hp => ?_)
        obtain ⟨rfl, hSA3, fr3⟩ := hp
        exact g_ireturn (fun z => NN_f z) (Nat.le_of_ble_eq_true rfl) (Nat.le_of_ble_eq_true rfl) dX6_query_68 rfl (wP_in ⟨by rw [e2], by rw [e2]; exact hSA3, fun j hj => by rw [fr3 j hj]; exact fr2 j hj⟩)
      · have e2 : qry S i x = ((S.1 i).2 (pb (S.1 i).1 (S.1 i).2 k), addR S ((k : Int) + 1)) := by unfold qry; simp only []; rw [e1, if_pos (by rw [← em]; omega), if_pos (by omega)]
        refine g_iload (q := 57) rfl dX6_query_55 rfl ?_
        refine g_goto (q := 68) dX6_query_57 rfl ?_
        exact g_ireturn (fun z => NN_f z) (Nat.le_of_ble_eq_true rfl) (Nat.le_of_ble_eq_true rfl) dX6_query_68 rfl (wP_in ⟨by rw [e2], by rw [e2]; exact hSA2, fr2⟩)
