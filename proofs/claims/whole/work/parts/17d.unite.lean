/-! ===== unite, subtract ===== -/
set_option maxRecDepth 4000 in
theorem t_X7_differenceIntoResult (l : Launch) (h : EHp) (S : ASt) (sv : List ASt) (hC : CRep h S sv) (i j : Nat) (hi : i < 4) (hj : j < 4) : CT l mX7_differenceIntoResult 1 0 0 [.ref (0), .ref (5 + 3 * i), .ref (5 + 3 * j)] NN h (wP (fun v h' => v = .int (iI (sub S i j).1) ∧ ∃ rs, h' 89 = cI 128 rs ∧ Ag (sub S i j).1 rs (sub S i j).2 ∧ ∀ t, t ≠ 89 → h' t = h t)) := by
  obtain ⟨g0, k1, k2, k4, k5, ⟨nx, g5⟩, ⟨Ws, Es, g6, g7, g8⟩, ⟨len0, bs, g9, g10, g11⟩, ⟨od, g12⟩, ⟨rs0, g13⟩⟩ := id hC
  obtain ⟨m, ds, fa, hA, hag, hO, hFO⟩ := k5 i hi trivial
  obtain ⟨m2, ds2, fa2, hA2, hag2, hO2, hFO2⟩ := k5 j hj trivial
  have hOd := ag_LOk hag hO
  have hOd2 := ag_LOk hag2 hO2
  have u1 := hO.1
  have u2 := hO.2.1
  have u3 := hO2.1
  have u4 := hO2.2.1
  refine CT.of (by decide) (Nat.le_of_ble_eq_true rfl) ?_
  refine g_al (al2 := [some (.ref (0)), some (.ref (5 + 3 * i)), some (.ref (5 + 3 * j)), none, none, none]) rfl ?_
  refine g_iconst (q := 1) dX7_differenceIntoResult_0 rfl ?_
  refine g_istore_n (q := 2) (al2 := [some (.ref (0)), some (.ref (5 + 3 * i)), some (.ref (5 + 3 * j)), some (.int (iI (0))), none, none]) rfl (by decide) rfl rfl dX7_differenceIntoResult_1 rfl ?_
  refine g_iconst (q := 3) dX7_differenceIntoResult_2 rfl ?_
  refine g_istore (q := 5) (al2 := [some (.ref (0)), some (.ref (5 + 3 * i)), some (.ref (5 + 3 * j)), some (.int (iI (0))), some (.int (iI (0))), none]) (by decide) rfl rfl dX7_differenceIntoResult_3 rfl ?_
  refine loopG (σ := Nat × (Int → Int) × EHp) (P := fun zz => match zz with | (k, rs, h2) => G l noX mX7_differenceIntoResult 1 0 0 (wP (fun v h' => v = .int (iI (sub S i j).1) ∧ ∃ rs, h' 89 = cI 128 rs ∧ Ag (sub S i j).1 rs (sub S i j).2 ∧ ∀ t, t ≠ 89 → h' t = h t)) 0 0 5 [some (.ref (0)), some (.ref (5 + 3 * i)), some (.ref (5 + 3 * j)), some (.int (iI ((dif S i j k).1))), some (.int (iI (k))), none] [] NN h2) (I := fun zz => match zz with | (k, rs, h2) => (k : Int) ≤ (S.1 i).1 ∧ h2 89 = cI 128 rs ∧ Ag (dif S i j k).1 rs (dif S i j k).2 ∧ ∀ t, t ≠ 89 → h2 t = h t) (fun zz => match zz with | (k, rs, h2) => (S.1 i).1.toNat - k) ?_ (0, rs0, h) ⟨u1, g13, fun t a b => by have : t < 0 := b; omega, fun _ _ => rfl⟩
  rintro ⟨k, rs, h2⟩ hI ih
  obtain ⟨hk, hr, ha, fr⟩ := hI
  have q0 : h2 0 = _ := (fr 0 (by decide)).trans g0
  have qA : PA h2 (5 + 3 * i) (S.1 i).1 m ds fa := ⟨(fr _ (by omega)).trans hA.1, (fr _ (by omega)).trans hA.2.1, (fr _ (by omega)).trans hA.2.2.1, hA.2.2.2⟩
  have qA2 : PA h2 (5 + 3 * j) (S.1 j).1 m2 ds2 fa2 := ⟨(fr _ (by omega)).trans hA2.1, (fr _ (by omega)).trans hA2.2.1, (fr _ (by omega)).trans hA2.2.2.1, hA2.2.2.2⟩
  obtain ⟨d1, d2, -, -⟩ := dif_ok (j := j) hO k hk
  refine g_iload (q := 7) rfl dX7_differenceIntoResult_5 rfl ?_
  refine g_aload_n (q := 8) rfl rfl dX7_differenceIntoResult_7 rfl ?_
  refine g_get (q := 11) fX7_69r (by show _ < 103; omega) qA.1 rfl dX7_differenceIntoResult_8 rfl ?_
  refine g_icmp_ge (t := 54) (q := 14) ⟨by omega, by omega⟩ ⟨by omega, by omega⟩ dX7_differenceIntoResult_11 rfl rfl (fun c11 => ?_) (fun c11 => ?_)
  · have ek : k = (S.1 i).1.toNat := by omega
    have ee : dif S i j k = sub S i j := by unfold sub; rw [ek]
    refine g_iload_n (q := 55) rfl rfl dX7_differenceIntoResult_54 rfl ?_
    exact g_ireturn (fun z => NN_f z) (Nat.le_of_ble_eq_true rfl) (Nat.le_of_ble_eq_true rfl) dX7_differenceIntoResult_55 rfl (wP_in ⟨by rw [ee], rs, hr, by rw [← ee]; exact ha, fr⟩)
  · have fk := hO.2.2.1 k (by omega) (by omega)
    have cbr := cb_is (S.1 j).2 ((S.1 i).2 k) hO2.1
    have dr := dA_rng hO2 (cb (S.1 j).1 (S.1 j).2 ((S.1 i).2 k))
    have hc := hs_cb hO2 fk.1
    refine g_aload_n (q := 15) rfl rfl dX7_differenceIntoResult_14 rfl ?_
    refine g_iload (q := 17) rfl dX7_differenceIntoResult_15 rfl ?_
    refine g_Vr (q := 20) (d' := 0) (i := 5 + 3 * i) (av := [.int (iI (k))]) (st := []) (v := .int (iI ((S.1 i).2 k))) kvX7_97 (by have := t_X4_documentAt l h2 (5 + 3 * i) (S.1 i).1 m ds fa qA hOd k ⟨by omega, by omega⟩; rw [ag_dA hag, dA_in (by omega) (by omega)] at this; exact this) (by show _ < 103; omega) qA.1 rfl (Nat.le_of_ble_eq_true rfl) ⟨(Nat.le_of_ble_eq_true rfl), (Nat.le_of_ble_eq_true rfl)⟩ ⟨(Nat.le_of_ble_eq_true rfl), (Nat.le_of_ble_eq_true rfl)⟩ rfl rfl dX7_differenceIntoResult_17 rfl ?_
    refine g_istore (q := 22) (al2 := [some (.ref (0)), some (.ref (5 + 3 * i)), some (.ref (5 + 3 * j)), some (.int (iI ((dif S i j k).1))), some (.int (iI (k))), some (.int (iI ((S.1 i).2 k)))]) (by decide) rfl rfl dX7_differenceIntoResult_20 rfl ?_
    refine g_aload_n (q := 23) rfl rfl dX7_differenceIntoResult_22 rfl ?_
    refine g_aload_n (q := 24) rfl rfl dX7_differenceIntoResult_23 rfl ?_
    refine g_iload (q := 26) rfl dX7_differenceIntoResult_24 rfl ?_
    refine g_Vr (q := 29) (d' := 0) (i := 5 + 3 * j) (av := [.int (iI ((S.1 i).2 k))]) (st := [.ref (5 + 3 * j)]) (v := .int (iI (cb (S.1 j).1 (S.1 j).2 ((S.1 i).2 k)))) kvX7_104 (by have := t_X4_countBelow l h2 (5 + 3 * j) (S.1 j).1 m2 ds2 fa2 qA2 hOd2 ((S.1 i).2 k) ⟨by omega, by omega⟩; rw [ag_cb hag2 hO2.1] at this; exact this) (by show _ < 103; omega) qA2.1 rfl (Nat.le_of_ble_eq_true rfl) ⟨(Nat.le_of_ble_eq_true rfl), (Nat.le_of_ble_eq_true rfl)⟩ ⟨(Nat.le_of_ble_eq_true rfl), (Nat.le_of_ble_eq_true rfl)⟩ rfl rfl dX7_differenceIntoResult_26 rfl ?_
    refine g_Vr (q := 32) (d' := 0) (i := 5 + 3 * j) (av := [.int (iI (cb (S.1 j).1 (S.1 j).2 ((S.1 i).2 k)))]) (st := []) (v := .int (iI (dA (S.1 j).1 (S.1 j).2 (cb (S.1 j).1 (S.1 j).2 ((S.1 i).2 k))))) kvX7_97 (by have := t_X4_documentAt l h2 (5 + 3 * j) (S.1 j).1 m2 ds2 fa2 qA2 hOd2 (cb (S.1 j).1 (S.1 j).2 ((S.1 i).2 k)) ⟨by have := cbr.1; omega, by have := cbr.2.1; omega⟩; rw [ag_dA hag2] at this; exact this) (by show _ < 103; omega) qA2.1 rfl (Nat.le_of_ble_eq_true rfl) ⟨(Nat.le_of_ble_eq_true rfl), (Nat.le_of_ble_eq_true rfl)⟩ ⟨(Nat.le_of_ble_eq_true rfl), (Nat.le_of_ble_eq_true rfl)⟩ rfl rfl dX7_differenceIntoResult_29 rfl ?_
    refine g_iload (q := 34) rfl dX7_differenceIntoResult_32 rfl ?_
    refine g_icmp_eq (t := 48) (q := 37) ⟨by omega, by omega⟩ ⟨by omega, by omega⟩ dX7_differenceIntoResult_34 rfl rfl (fun c34 => ?_) (fun c34 => ?_)
    · refine g_iinc (q := 51) (al2 := [some (.ref (0)), some (.ref (5 + 3 * i)), some (.ref (5 + 3 * j)), some (.int (iI ((dif S i j k).1))), some (.int (iI (k + 1))), some (.int (iI ((S.1 i).2 k)))]) rfl (by decide) rfl rfl dX7_differenceIntoResult_48 rfl ?_
      refine g_goto (q := 5) dX7_differenceIntoResult_51 rfl ?_
      refine g_drop (al2 := [some (.ref (0)), some (.ref (5 + 3 * i)), some (.ref (5 + 3 * j)), some (.int (iI ((dif S i j k).1))), some (.int (iI (k + 1))), none]) 5 rfl ?_
      have e1 := dif_t (S := S) (i := i) (j := j) (k := k) (hc.mp c34)
      have gg := ih (k + 1, rs, h2) ⟨by show ((k + 1 : Nat) : Int) ≤ (S.1 i).1; omega, hr, by rw [e1]; exact ha, fr⟩ (by show (S.1 i).1.toNat - (k + 1) < (S.1 i).1.toNat - k; omega)
      simp only [] at gg
      rw [e1, show ((k + 1 : Nat) : Int) = (k : Int) + 1 by omega] at gg
      exact gg
    · refine g_aload_n (q := 38) rfl rfl dX7_differenceIntoResult_37 rfl ?_
      refine g_get (q := 41) fX7_41r (by decide) q0 rfl dX7_differenceIntoResult_38 rfl ?_
      refine g_iload_n (q := 42) rfl rfl dX7_differenceIntoResult_41 rfl ?_
      refine g_iload (q := 44) rfl dX7_differenceIntoResult_42 rfl ?_
      refine g_iastore (q := 45) (by decide) hr (by omega) (by omega) (by decide) dX7_differenceIntoResult_44 rfl ?_
      refine hp_in (fun hh1 ehh1 => ?_)
      have fc2 : hh1 0 = cO 6 [.ref (1), .ref (17), .ref (83), .ref (86), .ref (88), .ref (89)] := by rw [ehh1, ueh_n (by decide)]; exact q0
      have fc3 : hh1 (5 + 3 * i) = cO 4 [.ref (5 + 3 * i + 1), .int (iI ((S.1 i).1)), .ref (5 + 3 * i + 2), .int (iI (m))] := by rw [ehh1, ueh_n (by omega)]; exact qA.1
      have fc4 : hh1 (5 + 3 * j) = cO 4 [.ref (5 + 3 * j + 1), .int (iI ((S.1 j).1)), .ref (5 + 3 * j + 2), .int (iI (m2))] := by rw [ehh1, ueh_n (by omega)]; exact qA2.1
      have fc5 : hh1 89 = cI 128 (ui rs ((dif S i j k).1) ((S.1 i).2 k)) := by rw [ehh1]; exact ueh_s
      refine g_iinc (q := 48) (al2 := [some (.ref (0)), some (.ref (5 + 3 * i)), some (.ref (5 + 3 * j)), some (.int (iI (((dif S i j k).1) + 1))), some (.int (iI (k))), some (.int (iI ((S.1 i).2 k)))]) rfl (by decide) rfl rfl dX7_differenceIntoResult_45 rfl ?_
      refine g_iinc (q := 51) (al2 := [some (.ref (0)), some (.ref (5 + 3 * i)), some (.ref (5 + 3 * j)), some (.int (iI (((dif S i j k).1) + 1))), some (.int (iI (k + 1))), some (.int (iI ((S.1 i).2 k)))]) rfl (by decide) rfl rfl dX7_differenceIntoResult_48 rfl ?_
      refine g_goto (q := 5) dX7_differenceIntoResult_51 rfl ?_
      refine g_drop (al2 := [some (.ref (0)), some (.ref (5 + 3 * i)), some (.ref (5 + 3 * j)), some (.int (iI (((dif S i j k).1) + 1))), some (.int (iI (k + 1))), none]) 5 rfl ?_
      have e1 := dif_f (S := S) (i := i) (j := j) (k := k) (fun z => c34 (hc.mpr z))
      have e2 : (dif S i j (k + 1)).1 = (dif S i j k).1 + 1 := by rw [e1]
      have gg := ih (k + 1, ui rs ((dif S i j k).1) ((S.1 i).2 k), hh1) ⟨by show ((k + 1 : Nat) : Int) ≤ (S.1 i).1; omega, fc5, by rw [e1]; exact ag_ui ha _, fun t ht => by rw [ehh1, ueh_n ht]; exact fr t ht⟩ (by show (S.1 i).1.toNat - (k + 1) < (S.1 i).1.toNat - k; omega)
      simp only [] at gg
      rw [e2, show ((k + 1 : Nat) : Int) = (k : Int) + 1 by omega] at gg
      exact gg
set_option maxRecDepth 4000 in
theorem t_X7_subtract (l : Launch) (h : EHp) (S : ASt) (sv : List ASt) (hC : CRep h S sv) (i j t : Nat) (hi : i < 4) (hj : j < 4) (ht : t < 4) : CT l mX7_subtract 9 0 0 [.ref (0), .int (iI (i)), .int (iI (j)), .int (iI (t))] NN h (wP (fun v h' => v = .int (iI (sub S i j).1) ∧ CRep h' (wrL S t (sub S i j).1 (sub S i j).2) (push4 S sv) ∧ FrC h h')) := by
  obtain ⟨g0, k1, k2, k4, k5, -⟩ := id hC
  obtain ⟨m, ds, fa, hA, hag, hO, hFO⟩ := k5 i hi trivial
  obtain ⟨m2, ds2, fa2, hA2, hag2, hO2, hFO2⟩ := k5 j hj trivial
  obtain ⟨-, -, -, -, -, -, -, -, ⟨od9, g12⟩, -⟩ := id hC
  refine CT.of (by decide) (Nat.le_of_ble_eq_true rfl) ?_
  refine g_al (al2 := [some (.ref (0)), some (.int (iI (i))), some (.int (iI (j))), some (.int (iI (t))), none]) rfl ?_
  refine g_iload_n (q := 1) rfl rfl dX7_subtract_0 rfl ?_
  refine g_Sv (q := 4) (d' := 7) (av := [.int (iI (t))]) (st := []) ksX7_126 (t_X7_requireList l h t (by omega) (by omega)) rfl (Nat.le_of_ble_eq_true rfl) ⟨(Nat.le_of_ble_eq_true rfl), (Nat.le_of_ble_eq_true rfl)⟩ ⟨(Nat.le_of_ble_eq_true rfl), (Nat.le_of_ble_eq_true rfl)⟩ rfl rfl dX7_subtract_1 rfl (fun hq1 eq2 => ?_)
  rw [eq2]
  refine g_aload_n (q := 5) rfl rfl dX7_subtract_4 rfl ?_
  refine g_aload_n (q := 6) rfl rfl dX7_subtract_5 rfl ?_
  refine g_iload_n (q := 7) rfl rfl dX7_subtract_6 rfl ?_
  refine g_Vr (q := 10) (d' := 8) (i := 0) (av := [.int (iI (i))]) (st := [.ref (0)]) (v := .ref (5 + 3 * i)) kvX7_48 (t_X7_listAt l h S sv hC i hi) (by decide) g0 rfl (Nat.le_of_ble_eq_true rfl) ⟨(Nat.le_of_ble_eq_true rfl), (Nat.le_of_ble_eq_true rfl)⟩ ⟨(Nat.le_of_ble_eq_true rfl), (Nat.le_of_ble_eq_true rfl)⟩ rfl rfl dX7_subtract_7 rfl ?_
  refine g_aload_n (q := 11) rfl rfl dX7_subtract_10 rfl ?_
  refine g_iload_n (q := 12) rfl rfl dX7_subtract_11 rfl ?_
  refine g_Vr (q := 15) (d' := 8) (i := 0) (av := [.int (iI (j))]) (st := [.ref (5 + 3 * i), .ref (0)]) (v := .ref (5 + 3 * j)) kvX7_48 (t_X7_listAt l h S sv hC j hj) (by decide) g0 rfl (Nat.le_of_ble_eq_true rfl) ⟨(Nat.le_of_ble_eq_true rfl), (Nat.le_of_ble_eq_true rfl)⟩ ⟨(Nat.le_of_ble_eq_true rfl), (Nat.le_of_ble_eq_true rfl)⟩ rfl rfl dX7_subtract_12 rfl ?_
  refine g_Vw (q := 18) (d' := 1) (i := 0) (av := [.ref (5 + 3 * i), .ref (5 + 3 * j)]) (st := []) kvX7_144 (t_X7_differenceIntoResult l h S sv hC i j hi hj) (by decide) g0 rfl (Nat.le_of_ble_eq_true rfl) ⟨(Nat.le_of_ble_eq_true rfl), (Nat.le_of_ble_eq_true rfl)⟩ ⟨(Nat.le_of_ble_eq_true rfl), (Nat.le_of_ble_eq_true rfl)⟩ rfl rfl dX7_subtract_15 rfl (fun v h1 hp => ?_)
  obtain ⟨rfl, rs, r1, r2, r3⟩ := hp
  have hCb : CRep h1 S sv := crep_or hC ((r3 88 (by decide)).trans g12) r1 (fun j hj => r3 j (by omega))
  obtain ⟨e0, e1, e2, e4, -, ⟨nx, hH⟩, -⟩ := id hCb
  obtain ⟨T9, hG, -⟩ := id hH
  refine g_istore (q := 20) (al2 := [some (.ref (0)), some (.int (iI (i))), some (.int (iI (j))), some (.int (iI (t))), some (.int (iI ((sub S i j).1)))]) (by decide) rfl rfl dX7_subtract_18 rfl ?_
  refine g_aload_n (q := 21) rfl rfl dX7_subtract_20 rfl ?_
  refine g_get (q := 24) fX7_19r (by decide) e0 rfl dX7_subtract_21 rfl ?_
  refine g_aload_n (q := 25) rfl rfl dX7_subtract_24 rfl ?_
  refine g_get (q := 28) fX7_12r (by decide) e0 rfl dX7_subtract_25 rfl ?_
  refine g_Vv (q := 31) (d' := 3) (i := 17) (av := [.ref (1)]) (st := []) kvX7_78 (t_X2_save l h1 17 nx 1 sv S hH (crep_SA hCb) (by omega)) (by decide) hG rfl (Nat.le_of_ble_eq_true rfl) ⟨(Nat.le_of_ble_eq_true rfl), (Nat.le_of_ble_eq_true rfl)⟩ ⟨(Nat.le_of_ble_eq_true rfl), (Nat.le_of_ble_eq_true rfl)⟩ rfl rfl dX7_subtract_28 rfl (fun h2 hsv => ?_)
  obtain ⟨sv1, sv2⟩ := hsv
  have hC1 : CRep h2 S (push4 S sv) := crep_sv hCb sv1 sv2
  obtain ⟨n0, n1, -⟩ := id hC1
  have r4 : h2 89 = _ := (sv2 89 (by omega)).trans r1
  refine g_aload_n (q := 32) rfl rfl dX7_subtract_31 rfl ?_
  refine g_iload_n (q := 33) rfl rfl dX7_subtract_32 rfl ?_
  refine g_iload (q := 35) rfl dX7_subtract_33 rfl ?_
  refine g_Vw (q := 38) (d' := 5) (i := 0) (av := [.int (iI (t)), .int (iI ((sub S i j).1))]) (st := []) kvX7_89 (t_X7_writeResult l h2 S (push4 S sv) t ht hC1 rs (sub S i j).2 (sub S i j).1 r4 (sub_LOk hO) r2) (by decide) n0 rfl (Nat.le_of_ble_eq_true rfl) ⟨(Nat.le_of_ble_eq_true rfl), (Nat.le_of_ble_eq_true rfl)⟩ ⟨(Nat.le_of_ble_eq_true rfl), (Nat.le_of_ble_eq_true rfl)⟩ rfl rfl dX7_subtract_35 rfl (fun v h3 hp => ?_)
  obtain ⟨rfl, p1, p2⟩ := hp
  exact g_ireturn (fun z => NN_f z) (Nat.le_of_ble_eq_true rfl) (Nat.le_of_ble_eq_true rfl) dX7_subtract_38 rfl (wP_in ⟨rfl, p1, fun q hq => (p2 q hq).trans ((sv2 q (by omega)).trans (r3 q (by omega)))⟩)
set_option maxRecDepth 4000 in
theorem t_X7_unite (l : Launch) (h : EHp) (S : ASt) (sv : List ASt) (hC : CRep h S sv) (i j t : Nat) (hi : i < 4) (hj : j < 4) (ht : t < 4) (h64 : (uni S i j).1 ≤ 64) : CT l mX7_unite 9 0 0 [.ref (0), .int (iI (i)), .int (iI (j)), .int (iI (t))] NN h (wP (fun v h' => v = .int (iI (uni S i j).1) ∧ CRep h' (wrL S t (uni S i j).1 (uni S i j).2) (push4 S sv) ∧ FrC h h')) := by
  obtain ⟨g0, k1, k2, k4, k5, -⟩ := id hC
  obtain ⟨m, ds, fa, hA, hag, hO, hFO⟩ := k5 i hi trivial
  obtain ⟨m2, ds2, fa2, hA2, hag2, hO2, hFO2⟩ := k5 j hj trivial
  obtain ⟨-, -, -, -, -, -, -, -, ⟨od9, g12⟩, -⟩ := id hC
  have u0 := (en_ok (uP S i j) 512).1
  have u0b : 0 ≤ (uni S i j).1 := u0
  refine CT.of (by decide) (Nat.le_of_ble_eq_true rfl) ?_
  refine g_al (al2 := [some (.ref (0)), some (.int (iI (i))), some (.int (iI (j))), some (.int (iI (t))), none]) rfl ?_
  refine g_iload_n (q := 1) rfl rfl dX7_unite_0 rfl ?_
  refine g_Sv (q := 4) (d' := 7) (av := [.int (iI (t))]) (st := []) ksX7_126 (t_X7_requireList l h t (by omega) (by omega)) rfl (Nat.le_of_ble_eq_true rfl) ⟨(Nat.le_of_ble_eq_true rfl), (Nat.le_of_ble_eq_true rfl)⟩ ⟨(Nat.le_of_ble_eq_true rfl), (Nat.le_of_ble_eq_true rfl)⟩ rfl rfl dX7_unite_1 rfl (fun hq1 eq2 => ?_)
  rw [eq2]
  refine g_aload_n (q := 5) rfl rfl dX7_unite_4 rfl ?_
  refine g_aload_n (q := 6) rfl rfl dX7_unite_5 rfl ?_
  refine g_iload_n (q := 7) rfl rfl dX7_unite_6 rfl ?_
  refine g_Vr (q := 10) (d' := 8) (i := 0) (av := [.int (iI (i))]) (st := [.ref (0)]) (v := .ref (5 + 3 * i)) kvX7_48 (t_X7_listAt l h S sv hC i hi) (by decide) g0 rfl (Nat.le_of_ble_eq_true rfl) ⟨(Nat.le_of_ble_eq_true rfl), (Nat.le_of_ble_eq_true rfl)⟩ ⟨(Nat.le_of_ble_eq_true rfl), (Nat.le_of_ble_eq_true rfl)⟩ rfl rfl dX7_unite_7 rfl ?_
  refine g_aload_n (q := 11) rfl rfl dX7_unite_10 rfl ?_
  refine g_iload_n (q := 12) rfl rfl dX7_unite_11 rfl ?_
  refine g_Vr (q := 15) (d' := 8) (i := 0) (av := [.int (iI (j))]) (st := [.ref (5 + 3 * i), .ref (0)]) (v := .ref (5 + 3 * j)) kvX7_48 (t_X7_listAt l h S sv hC j hj) (by decide) g0 rfl (Nat.le_of_ble_eq_true rfl) ⟨(Nat.le_of_ble_eq_true rfl), (Nat.le_of_ble_eq_true rfl)⟩ ⟨(Nat.le_of_ble_eq_true rfl), (Nat.le_of_ble_eq_true rfl)⟩ rfl rfl dX7_unite_12 rfl ?_
  refine g_Vw (q := 18) (d' := 1) (i := 0) (av := [.ref (5 + 3 * i), .ref (5 + 3 * j)]) (st := []) kvX7_138 (t_X7_mergeIntoResult l h S sv hC i j hi hj) (by decide) g0 rfl (Nat.le_of_ble_eq_true rfl) ⟨(Nat.le_of_ble_eq_true rfl), (Nat.le_of_ble_eq_true rfl)⟩ ⟨(Nat.le_of_ble_eq_true rfl), (Nat.le_of_ble_eq_true rfl)⟩ rfl rfl dX7_unite_15 rfl (fun v h1 hp => ?_)
  obtain ⟨rfl, rs, r1, r2, r3⟩ := hp
  have hCb : CRep h1 S sv := crep_or hC ((r3 88 (by decide)).trans g12) r1 (fun j hj => r3 j (by omega))
  obtain ⟨e0, e1, e2, e4, -, ⟨nx, hH⟩, -⟩ := id hCb
  obtain ⟨T9, hG, -⟩ := id hH
  refine g_istore (q := 20) (al2 := [some (.ref (0)), some (.int (iI (i))), some (.int (iI (j))), some (.int (iI (t))), some (.int (iI ((uni S i j).1)))]) (by decide) rfl rfl dX7_unite_18 rfl ?_
  refine g_iload (q := 22) rfl dX7_unite_20 rfl ?_
  refine g_bipush (q := 24) (by decide) dX7_unite_22 rfl ?_
  refine g_icmp_le (t := 37) (q := 27) ⟨by omega, by omega⟩ ⟨by omega, by omega⟩ dX7_unite_24 rfl rfl (fun c24 => ?_) (fun c24 => ?_)
  · refine g_aload_n (q := 38) rfl rfl dX7_unite_37 rfl ?_
    refine g_get (q := 41) fX7_19r (by decide) e0 rfl dX7_unite_38 rfl ?_
    refine g_aload_n (q := 42) rfl rfl dX7_unite_41 rfl ?_
    refine g_get (q := 45) fX7_12r (by decide) e0 rfl dX7_unite_42 rfl ?_
    refine g_Vv (q := 48) (d' := 3) (i := 17) (av := [.ref (1)]) (st := []) kvX7_78 (t_X2_save l h1 17 nx 1 sv S hH (crep_SA hCb) (by omega)) (by decide) hG rfl (Nat.le_of_ble_eq_true rfl) ⟨(Nat.le_of_ble_eq_true rfl), (Nat.le_of_ble_eq_true rfl)⟩ ⟨(Nat.le_of_ble_eq_true rfl), (Nat.le_of_ble_eq_true rfl)⟩ rfl rfl dX7_unite_45 rfl (fun h2 hsv => ?_)
    obtain ⟨sv1, sv2⟩ := hsv
    have hC1 : CRep h2 S (push4 S sv) := crep_sv hCb sv1 sv2
    obtain ⟨n0, n1, -⟩ := id hC1
    have r4 : h2 89 = _ := (sv2 89 (by omega)).trans r1
    refine g_aload_n (q := 49) rfl rfl dX7_unite_48 rfl ?_
    refine g_iload_n (q := 50) rfl rfl dX7_unite_49 rfl ?_
    refine g_iload (q := 52) rfl dX7_unite_50 rfl ?_
    refine g_Vw (q := 55) (d' := 5) (i := 0) (av := [.int (iI (t)), .int (iI ((uni S i j).1))]) (st := []) kvX7_89 (t_X7_writeResult l h2 S (push4 S sv) t ht hC1 rs (uni S i j).2 (uni S i j).1 r4 (en_LOk (Nat.le_refl 512) h64) r2) (by decide) n0 rfl (Nat.le_of_ble_eq_true rfl) ⟨(Nat.le_of_ble_eq_true rfl), (Nat.le_of_ble_eq_true rfl)⟩ ⟨(Nat.le_of_ble_eq_true rfl), (Nat.le_of_ble_eq_true rfl)⟩ rfl rfl dX7_unite_52 rfl (fun v h3 hp => ?_)
    obtain ⟨rfl, p1, p2⟩ := hp
    exact g_ireturn (fun z => NN_f z) (Nat.le_of_ble_eq_true rfl) (Nat.le_of_ble_eq_true rfl) dX7_unite_55 rfl (wP_in ⟨rfl, p1, fun q hq => (p2 q hq).trans ((sv2 q (by omega)).trans (r3 q (by omega)))⟩)
  · omega
set_option maxRecDepth 4000 in
theorem x4_X7_unite (l : Launch) (h : EHp) (S : ASt) (sv : List ASt) (hC : CRep h S sv) (i j t : Nat) (hi : i < 4) (hj : j < 4) (ht : t < 4) (h64 : 64 < (uni S i j).1) : CT l mX7_unite 9 1 6 [.ref (0), .int (iI (i)), .int (iI (j)), .int (iI (t))] NN h (xP eIS (fun h' => CRep h' S sv ∧ FrC h h')) := by
  obtain ⟨g0, k1, k2, k4, k5, -⟩ := id hC
  obtain ⟨m, ds, fa, hA, hag, hO, hFO⟩ := k5 i hi trivial
  obtain ⟨m2, ds2, fa2, hA2, hag2, hO2, hFO2⟩ := k5 j hj trivial
  obtain ⟨-, -, -, -, -, -, -, -, ⟨od9, g12⟩, -⟩ := id hC
  have u1 : (uni S i j).1 ≤ 128 := uni_128 hO hO2 512
  refine CT.of (by decide) (Nat.le_of_ble_eq_true rfl) ?_
  refine g_al (al2 := [some (.ref (0)), some (.int (iI (i))), some (.int (iI (j))), some (.int (iI (t))), none]) rfl ?_
  refine g_iload_n (q := 1) rfl rfl dX7_unite_0 rfl ?_
  refine g_Sv (q := 4) (d' := 7) (av := [.int (iI (t))]) (st := []) ksX7_126 (t_X7_requireList l h t (by omega) (by omega)) rfl (Nat.le_of_ble_eq_true rfl) ⟨(Nat.le_of_ble_eq_true rfl), (Nat.le_of_ble_eq_true rfl)⟩ ⟨(Nat.le_of_ble_eq_true rfl), (Nat.le_of_ble_eq_true rfl)⟩ rfl rfl dX7_unite_1 rfl (fun hq1 eq2 => ?_)
  rw [eq2]
  refine g_aload_n (q := 5) rfl rfl dX7_unite_4 rfl ?_
  refine g_aload_n (q := 6) rfl rfl dX7_unite_5 rfl ?_
  refine g_iload_n (q := 7) rfl rfl dX7_unite_6 rfl ?_
  refine g_Vr (q := 10) (d' := 8) (i := 0) (av := [.int (iI (i))]) (st := [.ref (0)]) (v := .ref (5 + 3 * i)) kvX7_48 (t_X7_listAt l h S sv hC i hi) (by decide) g0 rfl (Nat.le_of_ble_eq_true rfl) ⟨(Nat.le_of_ble_eq_true rfl), (Nat.le_of_ble_eq_true rfl)⟩ ⟨(Nat.le_of_ble_eq_true rfl), (Nat.le_of_ble_eq_true rfl)⟩ rfl rfl dX7_unite_7 rfl ?_
  refine g_aload_n (q := 11) rfl rfl dX7_unite_10 rfl ?_
  refine g_iload_n (q := 12) rfl rfl dX7_unite_11 rfl ?_
  refine g_Vr (q := 15) (d' := 8) (i := 0) (av := [.int (iI (j))]) (st := [.ref (5 + 3 * i), .ref (0)]) (v := .ref (5 + 3 * j)) kvX7_48 (t_X7_listAt l h S sv hC j hj) (by decide) g0 rfl (Nat.le_of_ble_eq_true rfl) ⟨(Nat.le_of_ble_eq_true rfl), (Nat.le_of_ble_eq_true rfl)⟩ ⟨(Nat.le_of_ble_eq_true rfl), (Nat.le_of_ble_eq_true rfl)⟩ rfl rfl dX7_unite_12 rfl ?_
  refine g_Vw (q := 18) (d' := 1) (i := 0) (av := [.ref (5 + 3 * i), .ref (5 + 3 * j)]) (st := []) kvX7_138 (t_X7_mergeIntoResult l h S sv hC i j hi hj) (by decide) g0 rfl (Nat.le_of_ble_eq_true rfl) ⟨(Nat.le_of_ble_eq_true rfl), (Nat.le_of_ble_eq_true rfl)⟩ ⟨(Nat.le_of_ble_eq_true rfl), (Nat.le_of_ble_eq_true rfl)⟩ rfl rfl dX7_unite_15 rfl (fun v h1 hp => ?_)
  obtain ⟨rfl, rs, r1, r2, r3⟩ := hp
  have hCb : CRep h1 S sv := crep_or hC ((r3 88 (by decide)).trans g12) r1 (fun j hj => r3 j (by omega))
  obtain ⟨e0, e1, e2, e4, -, ⟨nx, hH⟩, -⟩ := id hCb
  obtain ⟨T9, hG, -⟩ := id hH
  refine g_istore (q := 20) (al2 := [some (.ref (0)), some (.int (iI (i))), some (.int (iI (j))), some (.int (iI (t))), some (.int (iI ((uni S i j).1)))]) (by decide) rfl rfl dX7_unite_18 rfl ?_
  refine g_iload (q := 22) rfl dX7_unite_20 rfl ?_
  refine g_bipush (q := 24) (by decide) dX7_unite_22 rfl ?_
  refine g_icmp_le (t := 37) (q := 27) ⟨by omega, by omega⟩ ⟨by omega, by omega⟩ dX7_unite_24 rfl rfl (fun c24 => ?_) (fun c24 => ?_)
  · omega
  · exact g_throw th_IS2 rfl rfl rfl (xP_in ⟨hCb, fun q hq => r3 q (by omega)⟩) (Nat.le_of_ble_eq_true rfl) (Nat.le_of_ble_eq_true rfl) (Nat.le_of_ble_eq_true rfl) (Nat.le_of_ble_eq_true rfl) dX7_unite_27 dX7_unite_30 dX7_unite_31 dX7_unite_33 dX7_unite_36
set_option maxRecDepth 4000 in
theorem x_X7_unite (l : Launch) (h : EHp) (S : ASt) (sv : List ASt) (hC : CRep h S sv) (i j t : Int) (ht : IR t) (h0 : t < 0 ∨ 4 ≤ t) : CT l mX7_unite 9 1 6 [.ref (0), .int (iI (i)), .int (iI (j)), .int (iI (t))] NN h (xP eIO (fun h' => h' = h)) := by
  obtain ⟨g0, k1, k2, k4, k5, -⟩ := id hC
  refine CT.of (by decide) (Nat.le_of_ble_eq_true rfl) ?_
  refine g_al (al2 := [some (.ref (0)), some (.int (iI (i))), some (.int (iI (j))), some (.int (iI (t))), none]) rfl ?_
  refine g_iload_n (q := 1) rfl rfl dX7_unite_0 rfl ?_
  exact g_Sx (d' := 7) (av := [.int (iI (t))]) (st := []) ksX7_126 (x_X7_requireList l h t ht h0) rfl (Nat.le_of_ble_eq_true rfl) ⟨(Nat.le_of_ble_eq_true rfl), (Nat.le_of_ble_eq_true rfl)⟩ ⟨(Nat.le_of_ble_eq_true rfl), (Nat.le_of_ble_eq_true rfl)⟩ rfl rfl dX7_unite_1 (fun h2 z => xP_in z)
set_option maxRecDepth 4000 in
theorem x2_X7_unite (l : Launch) (h : EHp) (S : ASt) (sv : List ASt) (hC : CRep h S sv) (i j : Int) (t : Nat) (ht : t < 4) (hi : IR i) (h0 : i < 0 ∨ 4 ≤ i) : CT l mX7_unite 9 1 6 [.ref (0), .int (iI (i)), .int (iI (j)), .int (iI (t))] NN h (xP eIO (fun h' => h' = h)) := by
  obtain ⟨g0, k1, k2, k4, k5, -⟩ := id hC
  refine CT.of (by decide) (Nat.le_of_ble_eq_true rfl) ?_
  refine g_al (al2 := [some (.ref (0)), some (.int (iI (i))), some (.int (iI (j))), some (.int (iI (t))), none]) rfl ?_
  refine g_iload_n (q := 1) rfl rfl dX7_unite_0 rfl ?_
  refine g_Sv (q := 4) (d' := 7) (av := [.int (iI (t))]) (st := []) ksX7_126 (t_X7_requireList l h t (by omega) (by omega)) rfl (Nat.le_of_ble_eq_true rfl) ⟨(Nat.le_of_ble_eq_true rfl), (Nat.le_of_ble_eq_true rfl)⟩ ⟨(Nat.le_of_ble_eq_true rfl), (Nat.le_of_ble_eq_true rfl)⟩ rfl rfl dX7_unite_1 rfl (fun hq1 eq2 => ?_)
  rw [eq2]
  refine g_aload_n (q := 5) rfl rfl dX7_unite_4 rfl ?_
  refine g_aload_n (q := 6) rfl rfl dX7_unite_5 rfl ?_
  refine g_iload_n (q := 7) rfl rfl dX7_unite_6 rfl ?_
  exact g_Vx (d' := 8) (i := 0) (av := [.int (iI (i))]) (st := [.ref (0)]) kvX7_48 (x_X7_listAt l h i hi h0) (by decide) g0 rfl (Nat.le_of_ble_eq_true rfl) ⟨(Nat.le_of_ble_eq_true rfl), (Nat.le_of_ble_eq_true rfl)⟩ ⟨(Nat.le_of_ble_eq_true rfl), (Nat.le_of_ble_eq_true rfl)⟩ rfl rfl dX7_unite_7 (fun h2 z => xP_in z)
set_option maxRecDepth 4000 in
theorem x3_X7_unite (l : Launch) (h : EHp) (S : ASt) (sv : List ASt) (hC : CRep h S sv) (i : Nat) (j : Int) (t : Nat) (ht : t < 4) (hi : i < 4) (hj : IR j) (h0 : j < 0 ∨ 4 ≤ j) : CT l mX7_unite 9 1 6 [.ref (0), .int (iI (i)), .int (iI (j)), .int (iI (t))] NN h (xP eIO (fun h' => h' = h)) := by
  obtain ⟨g0, k1, k2, k4, k5, -⟩ := id hC
  refine CT.of (by decide) (Nat.le_of_ble_eq_true rfl) ?_
  refine g_al (al2 := [some (.ref (0)), some (.int (iI (i))), some (.int (iI (j))), some (.int (iI (t))), none]) rfl ?_
  refine g_iload_n (q := 1) rfl rfl dX7_unite_0 rfl ?_
  refine g_Sv (q := 4) (d' := 7) (av := [.int (iI (t))]) (st := []) ksX7_126 (t_X7_requireList l h t (by omega) (by omega)) rfl (Nat.le_of_ble_eq_true rfl) ⟨(Nat.le_of_ble_eq_true rfl), (Nat.le_of_ble_eq_true rfl)⟩ ⟨(Nat.le_of_ble_eq_true rfl), (Nat.le_of_ble_eq_true rfl)⟩ rfl rfl dX7_unite_1 rfl (fun hq1 eq2 => ?_)
  rw [eq2]
  refine g_aload_n (q := 5) rfl rfl dX7_unite_4 rfl ?_
  refine g_aload_n (q := 6) rfl rfl dX7_unite_5 rfl ?_
  refine g_iload_n (q := 7) rfl rfl dX7_unite_6 rfl ?_
  refine g_Vr (q := 10) (d' := 8) (i := 0) (av := [.int (iI (i))]) (st := [.ref (0)]) (v := .ref (5 + 3 * i)) kvX7_48 (t_X7_listAt l h S sv hC i hi) (by decide) g0 rfl (Nat.le_of_ble_eq_true rfl) ⟨(Nat.le_of_ble_eq_true rfl), (Nat.le_of_ble_eq_true rfl)⟩ ⟨(Nat.le_of_ble_eq_true rfl), (Nat.le_of_ble_eq_true rfl)⟩ rfl rfl dX7_unite_7 rfl ?_
  refine g_aload_n (q := 11) rfl rfl dX7_unite_10 rfl ?_
  refine g_iload_n (q := 12) rfl rfl dX7_unite_11 rfl ?_
  exact g_Vx (d' := 8) (i := 0) (av := [.int (iI (j))]) (st := [.ref (5 + 3 * i), .ref (0)]) kvX7_48 (x_X7_listAt l h j hj h0) (by decide) g0 rfl (Nat.le_of_ble_eq_true rfl) ⟨(Nat.le_of_ble_eq_true rfl), (Nat.le_of_ble_eq_true rfl)⟩ ⟨(Nat.le_of_ble_eq_true rfl), (Nat.le_of_ble_eq_true rfl)⟩ rfl rfl dX7_unite_12 (fun h2 z => xP_in z)
set_option maxRecDepth 4000 in
theorem x_X7_subtract (l : Launch) (h : EHp) (S : ASt) (sv : List ASt) (hC : CRep h S sv) (i j t : Int) (ht : IR t) (h0 : t < 0 ∨ 4 ≤ t) : CT l mX7_subtract 9 1 6 [.ref (0), .int (iI (i)), .int (iI (j)), .int (iI (t))] NN h (xP eIO (fun h' => h' = h)) := by
  obtain ⟨g0, k1, k2, k4, k5, -⟩ := id hC
  refine CT.of (by decide) (Nat.le_of_ble_eq_true rfl) ?_
  refine g_al (al2 := [some (.ref (0)), some (.int (iI (i))), some (.int (iI (j))), some (.int (iI (t))), none]) rfl ?_
  refine g_iload_n (q := 1) rfl rfl dX7_subtract_0 rfl ?_
  exact g_Sx (d' := 7) (av := [.int (iI (t))]) (st := []) ksX7_126 (x_X7_requireList l h t ht h0) rfl (Nat.le_of_ble_eq_true rfl) ⟨(Nat.le_of_ble_eq_true rfl), (Nat.le_of_ble_eq_true rfl)⟩ ⟨(Nat.le_of_ble_eq_true rfl), (Nat.le_of_ble_eq_true rfl)⟩ rfl rfl dX7_subtract_1 (fun h2 z => xP_in z)
set_option maxRecDepth 4000 in
theorem x2_X7_subtract (l : Launch) (h : EHp) (S : ASt) (sv : List ASt) (hC : CRep h S sv) (i j : Int) (t : Nat) (ht : t < 4) (hi : IR i) (h0 : i < 0 ∨ 4 ≤ i) : CT l mX7_subtract 9 1 6 [.ref (0), .int (iI (i)), .int (iI (j)), .int (iI (t))] NN h (xP eIO (fun h' => h' = h)) := by
  obtain ⟨g0, k1, k2, k4, k5, -⟩ := id hC
  refine CT.of (by decide) (Nat.le_of_ble_eq_true rfl) ?_
  refine g_al (al2 := [some (.ref (0)), some (.int (iI (i))), some (.int (iI (j))), some (.int (iI (t))), none]) rfl ?_
  refine g_iload_n (q := 1) rfl rfl dX7_subtract_0 rfl ?_
  refine g_Sv (q := 4) (d' := 7) (av := [.int (iI (t))]) (st := []) ksX7_126 (t_X7_requireList l h t (by omega) (by omega)) rfl (Nat.le_of_ble_eq_true rfl) ⟨(Nat.le_of_ble_eq_true rfl), (Nat.le_of_ble_eq_true rfl)⟩ ⟨(Nat.le_of_ble_eq_true rfl), (Nat.le_of_ble_eq_true rfl)⟩ rfl rfl dX7_subtract_1 rfl (fun hq1 eq2 => ?_)
  rw [eq2]
  refine g_aload_n (q := 5) rfl rfl dX7_subtract_4 rfl ?_
  refine g_aload_n (q := 6) rfl rfl dX7_subtract_5 rfl ?_
  refine g_iload_n (q := 7) rfl rfl dX7_subtract_6 rfl ?_
  exact g_Vx (d' := 8) (i := 0) (av := [.int (iI (i))]) (st := [.ref (0)]) kvX7_48 (x_X7_listAt l h i hi h0) (by decide) g0 rfl (Nat.le_of_ble_eq_true rfl) ⟨(Nat.le_of_ble_eq_true rfl), (Nat.le_of_ble_eq_true rfl)⟩ ⟨(Nat.le_of_ble_eq_true rfl), (Nat.le_of_ble_eq_true rfl)⟩ rfl rfl dX7_subtract_7 (fun h2 z => xP_in z)
set_option maxRecDepth 4000 in
theorem x3_X7_subtract (l : Launch) (h : EHp) (S : ASt) (sv : List ASt) (hC : CRep h S sv) (i : Nat) (j : Int) (t : Nat) (ht : t < 4) (hi : i < 4) (hj : IR j) (h0 : j < 0 ∨ 4 ≤ j) : CT l mX7_subtract 9 1 6 [.ref (0), .int (iI (i)), .int (iI (j)), .int (iI (t))] NN h (xP eIO (fun h' => h' = h)) := by
  obtain ⟨g0, k1, k2, k4, k5, -⟩ := id hC
  refine CT.of (by decide) (Nat.le_of_ble_eq_true rfl) ?_
  refine g_al (al2 := [some (.ref (0)), some (.int (iI (i))), some (.int (iI (j))), some (.int (iI (t))), none]) rfl ?_
  refine g_iload_n (q := 1) rfl rfl dX7_subtract_0 rfl ?_
  refine g_Sv (q := 4) (d' := 7) (av := [.int (iI (t))]) (st := []) ksX7_126 (t_X7_requireList l h t (by omega) (by omega)) rfl (Nat.le_of_ble_eq_true rfl) ⟨(Nat.le_of_ble_eq_true rfl), (Nat.le_of_ble_eq_true rfl)⟩ ⟨(Nat.le_of_ble_eq_true rfl), (Nat.le_of_ble_eq_true rfl)⟩ rfl rfl dX7_subtract_1 rfl (fun hq1 eq2 => ?_)
  rw [eq2]
  refine g_aload_n (q := 5) rfl rfl dX7_subtract_4 rfl ?_
  refine g_aload_n (q := 6) rfl rfl dX7_subtract_5 rfl ?_
  refine g_iload_n (q := 7) rfl rfl dX7_subtract_6 rfl ?_
  refine g_Vr (q := 10) (d' := 8) (i := 0) (av := [.int (iI (i))]) (st := [.ref (0)]) (v := .ref (5 + 3 * i)) kvX7_48 (t_X7_listAt l h S sv hC i hi) (by decide) g0 rfl (Nat.le_of_ble_eq_true rfl) ⟨(Nat.le_of_ble_eq_true rfl), (Nat.le_of_ble_eq_true rfl)⟩ ⟨(Nat.le_of_ble_eq_true rfl), (Nat.le_of_ble_eq_true rfl)⟩ rfl rfl dX7_subtract_7 rfl ?_
  refine g_aload_n (q := 11) rfl rfl dX7_subtract_10 rfl ?_
  refine g_iload_n (q := 12) rfl rfl dX7_subtract_11 rfl ?_
  exact g_Vx (d' := 8) (i := 0) (av := [.int (iI (j))]) (st := [.ref (5 + 3 * i), .ref (0)]) kvX7_48 (x_X7_listAt l h j hj h0) (by decide) g0 rfl (Nat.le_of_ble_eq_true rfl) ⟨(Nat.le_of_ble_eq_true rfl), (Nat.le_of_ble_eq_true rfl)⟩ ⟨(Nat.le_of_ble_eq_true rfl), (Nat.le_of_ble_eq_true rfl)⟩ rfl rfl dX7_subtract_12 (fun h2 z => xP_in z)
