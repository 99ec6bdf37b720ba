/-! ===== the reference: bits of the code ===== -/
set_option maxRecDepth 4000 in
theorem t_X8_bitsOf (l : Launch) (h : EHp) (th : Int) (S : ASt) (sv : List ASt) (hM : MRep h th S sv) (i : Nat) (hi : i < 4) : CT l mX8_bitsOf 6 0 0 [.ref (90), .int (iI (i))] NN h (wP (fun v h' => v = .int (iI (szP (S.1 i).1 (S.1 i).2 (pn (S.1 i).1 (S.1 i).2))) ∧ MRep h' th S sv ∧ MLay h' i (S.1 i).1 (S.1 i).2 ∧ ∀ j, (j < 93 ∨ 98 < j) → h' j = h j)) := by
  obtain ⟨w, pst, bg, mn, lz, hA, ⟨m1, m2, m3, m4, m5⟩, ⟨⟨cs, s1⟩, ⟨ct, s2⟩, ⟨nx, s3⟩, ⟨fd, s4⟩, ⟨od, s5⟩⟩, hW, hP, hY⟩ := id hM
  refine CT.of (by decide) (Nat.le_of_ble_eq_true rfl) ?_
  refine g_al (al2 := [some (.ref (90)), some (.int (iI (i))), none, none]) rfl ?_
  refine g_aload_n (q := 1) rfl rfl dX8_bitsOf_0 rfl ?_
  refine g_iload_n (q := 2) rfl rfl dX8_bitsOf_1 rfl ?_
  refine g_Vv (q := 5) (d' := 4) (i := 90) (av := [.int (iI (i))]) (st := []) kvX8_114 (t_X8_lay l h th S sv hM i hi) (by decide) hA rfl (Nat.le_of_ble_eq_true rfl) ⟨(Nat.le_of_ble_eq_true rfl), (Nat.le_of_ble_eq_true rfl)⟩ ⟨(Nat.le_of_ble_eq_true rfl), (Nat.le_of_ble_eq_true rfl)⟩ rfl rfl dX8_bitsOf_2 rfl (fun h1 hp => ?_)
  obtain ⟨p1, p2, p3⟩ := hp
  obtain ⟨bg1, mn1, b93, b94, emn, -⟩ := id p2.2
  have b90 : h1 90 = _ := (p3 90 (by omega)).trans hA
  have p6 := pn_64 p2.LOk
  refine g_iconst (q := 6) dX8_bitsOf_5 rfl ?_
  refine g_istore_n (q := 7) (al2 := [some (.ref (90)), some (.int (iI (i))), some (.int (iI (0))), none]) rfl (by decide) rfl rfl dX8_bitsOf_6 rfl ?_
  refine g_iconst (q := 8) dX8_bitsOf_7 rfl ?_
  refine g_istore_n (q := 9) (al2 := [some (.ref (90)), some (.int (iI (i))), some (.int (iI (0))), some (.int (iI (0)))]) rfl (by decide) rfl rfl dX8_bitsOf_8 rfl ?_
  refine loopG (σ := Nat) (P := fun k => G l noX mX8_bitsOf 6 0 0 (wP (fun v h' => v = .int (iI (szP (S.1 i).1 (S.1 i).2 (pn (S.1 i).1 (S.1 i).2))) ∧ MRep h' th S sv ∧ MLay h' i (S.1 i).1 (S.1 i).2 ∧ ∀ j, (j < 93 ∨ 98 < j) → h' j = h j)) 0 0 9 [some (.ref (90)), some (.int (iI (i))), some (.int (iI (szP (S.1 i).1 (S.1 i).2 k))), some (.int (iI (k)))] [] NN h1) (I := fun k => k ≤ pn (S.1 i).1 (S.1 i).2) (fun k => pn (S.1 i).1 (S.1 i).2 - k) ?_ 0 (Nat.zero_le _)
  intro k hI ih
  have hI : k ≤ pn (S.1 i).1 (S.1 i).2 := hI
  refine g_iload_n (q := 10) rfl rfl dX8_bitsOf_9 rfl ?_
  refine g_aload_n (q := 11) rfl rfl dX8_bitsOf_10 rfl ?_
  refine g_get (q := 14) fX8_19r (by decide) b90 rfl dX8_bitsOf_11 rfl ?_
  refine g_iload_n (q := 15) rfl rfl dX8_bitsOf_14 rfl ?_
  refine g_iaload (q := 16) (by decide) b94 (by omega) (by omega) (by decide) dX8_bitsOf_15 rfl ?_
  rw [emn]
  refine g_icmp_ge (t := 35) (q := 19) ⟨by omega, by omega⟩ ⟨by omega, by omega⟩ dX8_bitsOf_16 rfl rfl (fun c16 => ?_) (fun c16 => ?_)
  · have ek : k = pn (S.1 i).1 (S.1 i).2 := by omega
    rw [ek]
    refine g_iload_n (q := 36) rfl rfl dX8_bitsOf_35 rfl ?_
    exact g_ireturn (fun z => NN_f z) (Nat.le_of_ble_eq_true rfl) (Nat.le_of_ble_eq_true rfl) dX8_bitsOf_36 rfl (wP_in ⟨rfl, p1, p2, p3⟩)
  · refine g_iload_n (q := 20) rfl rfl dX8_bitsOf_19 rfl ?_
    refine g_aload_n (q := 21) rfl rfl dX8_bitsOf_20 rfl ?_
    refine g_iload_n (q := 22) rfl rfl dX8_bitsOf_21 rfl ?_
    refine g_iload_n (q := 23) rfl rfl dX8_bitsOf_22 rfl ?_
    refine g_iconst (q := 24) dX8_bitsOf_23 rfl ?_
    refine g_Vr (q := 27) (d' := 5) (i := 90) (av := [.int (iI (i)), .int (iI (k)), .int (iI (4))]) (st := [.int (iI (szP (S.1 i).1 (S.1 i).2 k))]) (v := .int (iI (psz (S.1 i).2 (pb (S.1 i).1 (S.1 i).2 k) (pb (S.1 i).1 (S.1 i).2 (k + 1))))) kvX8_120 (t_X8_property l h1 i (S.1 i).1 (S.1 i).2 p2 k (by omega) 4 (by decide) (by decide)) (by decide) b90 rfl (Nat.le_of_ble_eq_true rfl) ⟨(Nat.le_of_ble_eq_true rfl), (Nat.le_of_ble_eq_true rfl)⟩ ⟨(Nat.le_of_ble_eq_true rfl), (Nat.le_of_ble_eq_true rfl)⟩ rfl rfl dX8_bitsOf_24 rfl ?_
    refine g_iadd (q := 28) dX8_bitsOf_27 rfl ?_
    refine g_istore_n (q := 29) (al2 := [some (.ref (90)), some (.int (iI (i))), some (.int (iI ((szP (S.1 i).1 (S.1 i).2 k) + (psz (S.1 i).2 (pb (S.1 i).1 (S.1 i).2 k) (pb (S.1 i).1 (S.1 i).2 (k + 1)))))), some (.int (iI (k)))]) rfl (by decide) rfl rfl dX8_bitsOf_28 rfl ?_
    refine g_iinc (q := 32) (al2 := [some (.ref (90)), some (.int (iI (i))), some (.int (iI ((szP (S.1 i).1 (S.1 i).2 k) + (psz (S.1 i).2 (pb (S.1 i).1 (S.1 i).2 k) (pb (S.1 i).1 (S.1 i).2 (k + 1)))))), some (.int (iI (k + 1)))]) rfl (by decide) rfl rfl dX8_bitsOf_29 rfl ?_
    refine g_goto (q := 9) dX8_bitsOf_32 rfl ?_
    exact ih (k + 1) (show k + 1 ≤ pn (S.1 i).1 (S.1 i).2 by omega) (show pn (S.1 i).1 (S.1 i).2 - (k + 1) < pn (S.1 i).1 (S.1 i).2 - k by omega)
set_option maxRecDepth 4000 in
theorem t_X8_headerBit (l : Launch) (h : EHp) (i : Nat) (c : Int) (f : Int → Int) (hL : MLay h i c f) (k : Nat) (hk : k < pn c f) (q : Int) (q0 : 0 ≤ q) (q1 : q < 26) : CT l mX8_headerBit 4 0 0 [.ref (90), .int (iI (i)), .int (iI (k)), .int (iI (q))] NN h (rP (.int (iI (hbit f (pb c f k) (pb c f (k + 1)) q))) h) := by
  have hD := hL.1
  obtain ⟨bg, mn, hb, hm, em, hbg⟩ := hL.2
  obtain ⟨th, sl, w, hA, hw, hi, hc, hO, hd⟩ := id hD
  obtain ⟨o1, o2, o3, o4⟩ := id hO
  have p6 := pn_64 hO
  obtain ⟨k0, k1, k2⟩ := hL.pb hk
  have g := hO.wid k0 k1 k2
  have ew : wd f (pb c f k) (pb c f (k + 1)) = f (pb c f (k + 1) - 1) - f (pb c f k) + 1 := rfl
  have kr := knd_rng (n := pb c f (k + 1) - pb c f k) (u := wd f (pb c f k) (pb c f (k + 1)))
  have fr_ := o3 (pb c f k) (by omega) (by omega)
  refine CT.of (by decide) (Nat.le_of_ble_eq_true rfl) ?_
  refine g_al (al2 := [some (.ref (90)), some (.int (iI (i))), some (.int (iI (k))), some (.int (iI (q))), none]) rfl ?_
  refine g_iload_n (q := 1) rfl rfl dX8_headerBit_0 rfl ?_
  refine g_iconst (q := 2) dX8_headerBit_1 rfl ?_
  refine g_icmp_ge (t := 16) (q := 5) ⟨by omega, by omega⟩ ⟨by omega, by omega⟩ dX8_headerBit_2 rfl rfl (fun c2 => ?_) (fun c2 => ?_)
  · refine g_iload_n (q := 17) rfl rfl dX8_headerBit_16 rfl ?_
    refine g_bipush (q := 19) (by decide) dX8_headerBit_17 rfl ?_
    refine g_icmp_ge (t := 37) (q := 22) ⟨by omega, by omega⟩ ⟨by omega, by omega⟩ dX8_headerBit_19 rfl rfl (fun c19 => ?_) (fun c19 => ?_)
    · refine g_iload_n (q := 38) rfl rfl dX8_headerBit_37 rfl ?_
      refine g_bipush (q := 40) (by decide) dX8_headerBit_38 rfl ?_
      refine g_icmp_ge (t := 57) (q := 43) ⟨by omega, by omega⟩ ⟨by omega, by omega⟩ dX8_headerBit_40 rfl rfl (fun c40 => ?_) (fun c40 => ?_)
      · refine g_aload_n (q := 58) rfl rfl dX8_headerBit_57 rfl ?_
        refine g_iload_n (q := 59) rfl rfl dX8_headerBit_58 rfl ?_
        refine g_iload_n (q := 60) rfl rfl dX8_headerBit_59 rfl ?_
        refine g_Vr (q := 63) (d' := 2) (i := 90) (av := [.int (iI (i)), .int (iI (k))]) (st := []) (v := .int (iI (wd f (pb c f k) (pb c f (k + 1))))) kvX8_108 (t_X8_widthOf l h i c f hL k hk) (by decide) hA rfl (Nat.le_of_ble_eq_true rfl) ⟨(Nat.le_of_ble_eq_true rfl), (Nat.le_of_ble_eq_true rfl)⟩ ⟨(Nat.le_of_ble_eq_true rfl), (Nat.le_of_ble_eq_true rfl)⟩ rfl rfl dX8_headerBit_60 rfl ?_
        refine g_iconst (q := 64) dX8_headerBit_63 rfl ?_
        refine g_isub (q := 65) dX8_headerBit_64 rfl ?_
        refine g_iload_n (q := 66) rfl rfl dX8_headerBit_65 rfl ?_
        refine g_bipush (q := 68) (by decide) dX8_headerBit_66 rfl ?_
        refine g_isub (q := 69) dX8_headerBit_68 rfl ?_
        have dv := div2_nn (a := wd f (pb c f k) (pb c f (k + 1)) - 1) (w := q - 17) (by omega)
        refine g_ishr (q := 70) (by omega) (by omega) (by omega) (by omega) dX8_headerBit_69 rfl ?_
        refine g_istore (q := 72) (al2 := [some (.ref (90)), some (.int (iI (i))), some (.int (iI (k))), some (.int (iI (q))), some (.int (iI (((wd f (pb c f k) (pb c f (k + 1))) - 1) / 2 ^ (q - 17 : Int).toNat)))]) (by decide) rfl rfl dX8_headerBit_70 rfl ?_
        refine g_iload (q := 74) rfl dX8_headerBit_72 rfl ?_
        refine g_iconst (q := 75) dX8_headerBit_74 rfl ?_
        refine g_iand1 (q := 76) (by omega) (by omega) dX8_headerBit_75 rfl ?_
        have eh : hbit f (pb c f k) (pb c f (k + 1)) q = (wd f (pb c f k) (pb c f (k + 1)) - 1) / 2 ^ (q - 17 : Int).toNat % 2 := by unfold hbit; rw [if_neg (by omega), if_neg (by omega), if_neg (by omega)]; rfl
        rw [eh]
        exact g_ireturn (fun z => NN_f z) (Nat.le_of_ble_eq_true rfl) (Nat.le_of_ble_eq_true rfl) dX8_headerBit_76 rfl rP_in
      · refine g_aload_n (q := 44) rfl rfl dX8_headerBit_43 rfl ?_
        refine g_iload_n (q := 45) rfl rfl dX8_headerBit_44 rfl ?_
        refine g_iload_n (q := 46) rfl rfl dX8_headerBit_45 rfl ?_
        refine g_Vr (q := 49) (d' := 1) (i := 90) (av := [.int (iI (i)), .int (iI (k))]) (st := []) (v := .int (iI (f (pb c f k)))) kvX8_102 (t_X8_firstIn l h i c f hL k hk) (by decide) hA rfl (Nat.le_of_ble_eq_true rfl) ⟨(Nat.le_of_ble_eq_true rfl), (Nat.le_of_ble_eq_true rfl)⟩ ⟨(Nat.le_of_ble_eq_true rfl), (Nat.le_of_ble_eq_true rfl)⟩ rfl rfl dX8_headerBit_46 rfl ?_
        refine g_iload_n (q := 50) rfl rfl dX8_headerBit_49 rfl ?_
        refine g_bipush (q := 52) (by decide) dX8_headerBit_50 rfl ?_
        refine g_isub (q := 53) dX8_headerBit_52 rfl ?_
        have dv := div2_nn (a := f (pb c f k)) (w := q - 8) (by omega)
        refine g_ishr (q := 54) (by omega) (by omega) (by omega) (by omega) dX8_headerBit_53 rfl ?_
        refine g_goto (q := 70) dX8_headerBit_54 rfl ?_
        refine g_istore (q := 72) (al2 := [some (.ref (90)), some (.int (iI (i))), some (.int (iI (k))), some (.int (iI (q))), some (.int (iI ((f (pb c f k)) / 2 ^ (q - 8 : Int).toNat)))]) (by decide) rfl rfl dX8_headerBit_70 rfl ?_
        refine g_iload (q := 74) rfl dX8_headerBit_72 rfl ?_
        refine g_iconst (q := 75) dX8_headerBit_74 rfl ?_
        refine g_iand1 (q := 76) (by omega) (by omega) dX8_headerBit_75 rfl ?_
        have eh : hbit f (pb c f k) (pb c f (k + 1)) q = (f (pb c f k)) / 2 ^ (q - 8 : Int).toNat % 2 := by unfold hbit; rw [if_neg (by omega), if_neg (by omega), if_pos (by omega)]; rfl
        rw [eh]
        exact g_ireturn (fun z => NN_f z) (Nat.le_of_ble_eq_true rfl) (Nat.le_of_ble_eq_true rfl) dX8_headerBit_76 rfl rP_in
    · refine g_aload_n (q := 23) rfl rfl dX8_headerBit_22 rfl ?_
      refine g_iload_n (q := 24) rfl rfl dX8_headerBit_23 rfl ?_
      refine g_iload_n (q := 25) rfl rfl dX8_headerBit_24 rfl ?_
      refine g_Vr (q := 28) (d' := 1) (i := 90) (av := [.int (iI (i)), .int (iI (k))]) (st := []) (v := .int (iI (pb c f (k + 1) - pb c f k))) kvX8_105 (t_X8_documentsIn l h i c f hL k hk) (by decide) hA rfl (Nat.le_of_ble_eq_true rfl) ⟨(Nat.le_of_ble_eq_true rfl), (Nat.le_of_ble_eq_true rfl)⟩ ⟨(Nat.le_of_ble_eq_true rfl), (Nat.le_of_ble_eq_true rfl)⟩ rfl rfl dX8_headerBit_25 rfl ?_
      refine g_iconst (q := 29) dX8_headerBit_28 rfl ?_
      refine g_isub (q := 30) dX8_headerBit_29 rfl ?_
      refine g_iload_n (q := 31) rfl rfl dX8_headerBit_30 rfl ?_
      refine g_iconst (q := 32) dX8_headerBit_31 rfl ?_
      refine g_isub (q := 33) dX8_headerBit_32 rfl ?_
      have dv := div2_nn (a := pb c f (k + 1) - pb c f k - 1) (w := q - 2) (by omega)
      refine g_ishr (q := 34) (by omega) (by omega) (by omega) (by omega) dX8_headerBit_33 rfl ?_
      refine g_goto (q := 70) dX8_headerBit_34 rfl ?_
      refine g_istore (q := 72) (al2 := [some (.ref (90)), some (.int (iI (i))), some (.int (iI (k))), some (.int (iI (q))), some (.int (iI (((pb c f (k + 1) - pb c f k) - 1) / 2 ^ (q - 2 : Int).toNat)))]) (by decide) rfl rfl dX8_headerBit_70 rfl ?_
      refine g_iload (q := 74) rfl dX8_headerBit_72 rfl ?_
      refine g_iconst (q := 75) dX8_headerBit_74 rfl ?_
      refine g_iand1 (q := 76) (by omega) (by omega) dX8_headerBit_75 rfl ?_
      have eh : hbit f (pb c f k) (pb c f (k + 1)) q = (pb c f (k + 1) - pb c f k - 1) / 2 ^ (q - 2 : Int).toNat % 2 := by unfold hbit; rw [if_neg (by omega), if_pos (by omega)]; rfl
      rw [eh]
      exact g_ireturn (fun z => NN_f z) (Nat.le_of_ble_eq_true rfl) (Nat.le_of_ble_eq_true rfl) dX8_headerBit_76 rfl rP_in
  · refine g_aload_n (q := 6) rfl rfl dX8_headerBit_5 rfl ?_
    refine g_iload_n (q := 7) rfl rfl dX8_headerBit_6 rfl ?_
    refine g_iload_n (q := 8) rfl rfl dX8_headerBit_7 rfl ?_
    refine g_Vr (q := 11) (d' := 3) (i := 90) (av := [.int (iI (i)), .int (iI (k))]) (st := []) (v := .int (iI (knd (pb c f (k + 1) - pb c f k) (wd f (pb c f k) (pb c f (k + 1)))))) kvX8_111 (t_X8_kindIn l h i c f hL k hk) (by decide) hA rfl (Nat.le_of_ble_eq_true rfl) ⟨(Nat.le_of_ble_eq_true rfl), (Nat.le_of_ble_eq_true rfl)⟩ ⟨(Nat.le_of_ble_eq_true rfl), (Nat.le_of_ble_eq_true rfl)⟩ rfl rfl dX8_headerBit_8 rfl ?_
    refine g_iload_n (q := 12) rfl rfl dX8_headerBit_11 rfl ?_
    have dv := div2_nn (a := knd (pb c f (k + 1) - pb c f k) (wd f (pb c f k) (pb c f (k + 1)))) (w := q) (by omega)
    refine g_ishr (q := 13) (by omega) (by omega) (by omega) (by omega) dX8_headerBit_12 rfl ?_
    refine g_goto (q := 70) dX8_headerBit_13 rfl ?_
    refine g_istore (q := 72) (al2 := [some (.ref (90)), some (.int (iI (i))), some (.int (iI (k))), some (.int (iI (q))), some (.int (iI ((knd (pb c f (k + 1) - pb c f k) (wd f (pb c f k) (pb c f (k + 1)))) / 2 ^ (q : Int).toNat)))]) (by decide) rfl rfl dX8_headerBit_70 rfl ?_
    refine g_iload (q := 74) rfl dX8_headerBit_72 rfl ?_
    refine g_iconst (q := 75) dX8_headerBit_74 rfl ?_
    refine g_iand1 (q := 76) (by omega) (by omega) dX8_headerBit_75 rfl ?_
    have eh : hbit f (pb c f k) (pb c f (k + 1)) q = (knd (pb c f (k + 1) - pb c f k) (wd f (pb c f k) (pb c f (k + 1)))) / 2 ^ (q : Int).toNat % 2 := by unfold hbit; rw [if_pos (by omega)]; rfl
    rw [eh]
    exact g_ireturn (fun z => NN_f z) (Nat.le_of_ble_eq_true rfl) (Nat.le_of_ble_eq_true rfl) dX8_headerBit_76 rfl rP_in
set_option maxRecDepth 4000 in
theorem t_X8_bodyBit (l : Launch) (h : EHp) (i : Nat) (c : Int) (f : Int → Int) (hL : MLay h i c f) (k : Nat) (hk : k < pn c f) (q : Int) (q0 : 0 ≤ q) (q1 : q < psz f (pb c f k) (pb c f (k + 1)) - 26) : CT l mX8_bodyBit 5 0 0 [.ref (90), .int (iI (i)), .int (iI (k)), .int (iI (q))] NN h (rP (.int (iI (bbit f (pb c f k) (pb c f (k + 1)) q))) h) := by
  have hD := hL.1
  obtain ⟨bg, mn, hb, hm, em, hbg⟩ := hL.2
  obtain ⟨th, sl, w, hA, hw, hi, hc, hO, hd⟩ := id hD
  obtain ⟨o1, o2, o3, o4⟩ := id hO
  have p6 := pn_64 hO
  obtain ⟨k0, k1, k2⟩ := hL.pb hk
  have g := hO.wid k0 k1 k2
  have ew : wd f (pb c f k) (pb c f (k + 1)) = f (pb c f (k + 1) - 1) - f (pb c f k) + 1 := rfl
  have kr := knd_rng (n := pb c f (k + 1) - pb c f k) (u := wd f (pb c f k) (pb c f (k + 1)))
  have fr_ := o3 (pb c f k) (by omega) (by omega)
  have f5 : fct f (pb c f k) (pb c f (k + 1)) 5 = (if knd (pb c f (k + 1) - pb c f k) (wd f (pb c f k) (pb c f (k + 1))) = 2 then lb (pb c f (k + 1) - pb c f k) (wd f (pb c f k) (pb c f (k + 1))) else 0) := rfl
  obtain ⟨w0, w9⟩ := fct5_rng hO k0 k1 k2
  have pk := psz_knd (ds := f) (s := pb c f k) (e := pb c f (k + 1))
  have hir := hiL_rng (n := pb c f (k + 1) - pb c f k) (u := wd f (pb c f k) (pb c f (k + 1))) (w := fct f (pb c f k) (pb c f (k + 1)) 5) (by omega) (by omega) (by omega) (by omega)
  have psr := psz_rng hO k0 k1 k2
  refine CT.of (by decide) (Nat.le_of_ble_eq_true rfl) ?_
  refine g_al (al2 := [some (.ref (90)), some (.int (iI (i))), some (.int (iI (k))), some (.int (iI (q))), none, none, none, none, none, none, none, none]) rfl ?_
  refine g_aload_n (q := 1) rfl rfl dX8_bodyBit_0 rfl ?_
  refine g_iload_n (q := 2) rfl rfl dX8_bodyBit_1 rfl ?_
  refine g_iload_n (q := 3) rfl rfl dX8_bodyBit_2 rfl ?_
  refine g_Vr (q := 6) (d' := 1) (i := 90) (av := [.int (iI (i)), .int (iI (k))]) (st := []) (v := .int (iI (f (pb c f k)))) kvX8_102 (t_X8_firstIn l h i c f hL k hk) (by decide) hA rfl (Nat.le_of_ble_eq_true rfl) ⟨(Nat.le_of_ble_eq_true rfl), (Nat.le_of_ble_eq_true rfl)⟩ ⟨(Nat.le_of_ble_eq_true rfl), (Nat.le_of_ble_eq_true rfl)⟩ rfl rfl dX8_bodyBit_3 rfl ?_
  refine g_istore (q := 8) (al2 := [some (.ref (90)), some (.int (iI (i))), some (.int (iI (k))), some (.int (iI (q))), some (.int (iI (f (pb c f k)))), none, none, none, none, none, none, none]) (by decide) rfl rfl dX8_bodyBit_6 rfl ?_
  refine g_aload_n (q := 9) rfl rfl dX8_bodyBit_8 rfl ?_
  refine g_iload_n (q := 10) rfl rfl dX8_bodyBit_9 rfl ?_
  refine g_iload_n (q := 11) rfl rfl dX8_bodyBit_10 rfl ?_
  refine g_Vr (q := 14) (d' := 0) (i := 90) (av := [.int (iI (i)), .int (iI (k))]) (st := []) (v := .int (iI (pb c f k))) kvX8_96 (t_X8_beginOf l h i c f hL k (by omega)) (by decide) hA rfl (Nat.le_of_ble_eq_true rfl) ⟨(Nat.le_of_ble_eq_true rfl), (Nat.le_of_ble_eq_true rfl)⟩ ⟨(Nat.le_of_ble_eq_true rfl), (Nat.le_of_ble_eq_true rfl)⟩ rfl rfl dX8_bodyBit_11 rfl ?_
  refine g_istore (q := 16) (al2 := [some (.ref (90)), some (.int (iI (i))), some (.int (iI (k))), some (.int (iI (q))), some (.int (iI (f (pb c f k)))), some (.int (iI (pb c f k))), none, none, none, none, none, none]) (by decide) rfl rfl dX8_bodyBit_14 rfl ?_
  refine g_aload_n (q := 17) rfl rfl dX8_bodyBit_16 rfl ?_
  refine g_iload_n (q := 18) rfl rfl dX8_bodyBit_17 rfl ?_
  refine g_iload_n (q := 19) rfl rfl dX8_bodyBit_18 rfl ?_
  refine g_Vr (q := 22) (d' := 1) (i := 90) (av := [.int (iI (i)), .int (iI (k))]) (st := []) (v := .int (iI (pb c f (k + 1) - pb c f k))) kvX8_105 (t_X8_documentsIn l h i c f hL k hk) (by decide) hA rfl (Nat.le_of_ble_eq_true rfl) ⟨(Nat.le_of_ble_eq_true rfl), (Nat.le_of_ble_eq_true rfl)⟩ ⟨(Nat.le_of_ble_eq_true rfl), (Nat.le_of_ble_eq_true rfl)⟩ rfl rfl dX8_bodyBit_19 rfl ?_
  refine g_istore (q := 24) (al2 := [some (.ref (90)), some (.int (iI (i))), some (.int (iI (k))), some (.int (iI (q))), some (.int (iI (f (pb c f k)))), some (.int (iI (pb c f k))), some (.int (iI (pb c f (k + 1) - pb c f k))), none, none, none, none, none]) (by decide) rfl rfl dX8_bodyBit_22 rfl ?_
  refine g_aload_n (q := 25) rfl rfl dX8_bodyBit_24 rfl ?_
  refine g_iload_n (q := 26) rfl rfl dX8_bodyBit_25 rfl ?_
  refine g_iload_n (q := 27) rfl rfl dX8_bodyBit_26 rfl ?_
  refine g_Vr (q := 30) (d' := 4) (i := 90) (av := [.int (iI (i)), .int (iI (k))]) (st := []) (v := .int (iI (fct f (pb c f k) (pb c f (k + 1)) 5))) kvX8_117 (t_X8_lowIn l h i c f hL k hk) (by decide) hA rfl (Nat.le_of_ble_eq_true rfl) ⟨(Nat.le_of_ble_eq_true rfl), (Nat.le_of_ble_eq_true rfl)⟩ ⟨(Nat.le_of_ble_eq_true rfl), (Nat.le_of_ble_eq_true rfl)⟩ rfl rfl dX8_bodyBit_27 rfl ?_
  refine g_istore (q := 32) (al2 := [some (.ref (90)), some (.int (iI (i))), some (.int (iI (k))), some (.int (iI (q))), some (.int (iI (f (pb c f k)))), some (.int (iI (pb c f k))), some (.int (iI (pb c f (k + 1) - pb c f k))), some (.int (iI (fct f (pb c f k) (pb c f (k + 1)) 5))), none, none, none, none]) (by decide) rfl rfl dX8_bodyBit_30 rfl ?_
  refine g_iload (q := 34) rfl dX8_bodyBit_32 rfl ?_
  refine g_aload_n (q := 35) rfl rfl dX8_bodyBit_34 rfl ?_
  refine g_iload_n (q := 36) rfl rfl dX8_bodyBit_35 rfl ?_
  refine g_iload_n (q := 37) rfl rfl dX8_bodyBit_36 rfl ?_
  refine g_Vr (q := 40) (d' := 2) (i := 90) (av := [.int (iI (i)), .int (iI (k))]) (st := [.int (iI (pb c f (k + 1) - pb c f k))]) (v := .int (iI (wd f (pb c f k) (pb c f (k + 1))))) kvX8_108 (t_X8_widthOf l h i c f hL k hk) (by decide) hA rfl (Nat.le_of_ble_eq_true rfl) ⟨(Nat.le_of_ble_eq_true rfl), (Nat.le_of_ble_eq_true rfl)⟩ ⟨(Nat.le_of_ble_eq_true rfl), (Nat.le_of_ble_eq_true rfl)⟩ rfl rfl dX8_bodyBit_37 rfl ?_
  refine g_iconst (q := 41) dX8_bodyBit_40 rfl ?_
  refine g_isub (q := 42) dX8_bodyBit_41 rfl ?_
  refine g_iload (q := 44) rfl dX8_bodyBit_42 rfl ?_
  refine g_ishr (q := 45) (by omega) (by omega) (by omega) (by omega) dX8_bodyBit_44 rfl ?_
  refine g_iadd (q := 46) dX8_bodyBit_45 rfl ?_
  refine g_iconst (q := 47) dX8_bodyBit_46 rfl ?_
  refine g_iadd (q := 48) dX8_bodyBit_47 rfl ?_
  show G l noX mX8_bodyBit 5 0 0 (rP (.int (iI (bbit f (pb c f k) (pb c f (k + 1)) q))) h) 0 0 48 [some (.ref (90)), some (.int (iI (i))), some (.int (iI (k))), some (.int (iI (q))), some (.int (iI (f (pb c f k)))), some (.int (iI (pb c f k))), some (.int (iI (pb c f (k + 1) - pb c f k))), some (.int (iI (fct f (pb c f k) (pb c f (k + 1)) 5))), none, none, none, none] [.int (iI (hiL (pb c f (k + 1) - pb c f k) (wd f (pb c f k) (pb c f (k + 1))) (fct f (pb c f k) (pb c f (k + 1)) 5)))] NN h
  refine g_istore (q := 50) (al2 := [some (.ref (90)), some (.int (iI (i))), some (.int (iI (k))), some (.int (iI (q))), some (.int (iI (f (pb c f k)))), some (.int (iI (pb c f k))), some (.int (iI (pb c f (k + 1) - pb c f k))), some (.int (iI (fct f (pb c f k) (pb c f (k + 1)) 5))), some (.int (iI (hiL (pb c f (k + 1) - pb c f k) (wd f (pb c f k) (pb c f (k + 1))) (fct f (pb c f k) (pb c f (k + 1)) 5)))), none, none, none]) (by decide) rfl rfl dX8_bodyBit_48 rfl ?_
  refine g_iconst (q := 51) dX8_bodyBit_50 rfl ?_
  refine g_istore (q := 53) (al2 := [some (.ref (90)), some (.int (iI (i))), some (.int (iI (k))), some (.int (iI (q))), some (.int (iI (f (pb c f k)))), some (.int (iI (pb c f k))), some (.int (iI (pb c f (k + 1) - pb c f k))), some (.int (iI (fct f (pb c f k) (pb c f (k + 1)) 5))), some (.int (iI (hiL (pb c f (k + 1) - pb c f k) (wd f (pb c f k) (pb c f (k + 1))) (fct f (pb c f k) (pb c f (k + 1)) 5)))), some (.int (iI (0))), none, none]) (by decide) rfl rfl dX8_bodyBit_51 rfl ?_
  refine g_aload_n (q := 54) rfl rfl dX8_bodyBit_53 rfl ?_
  refine g_iload_n (q := 55) rfl rfl dX8_bodyBit_54 rfl ?_
  refine g_iload_n (q := 56) rfl rfl dX8_bodyBit_55 rfl ?_
  refine g_Vr (q := 59) (d' := 3) (i := 90) (av := [.int (iI (i)), .int (iI (k))]) (st := []) (v := .int (iI (knd (pb c f (k + 1) - pb c f k) (wd f (pb c f k) (pb c f (k + 1)))))) kvX8_111 (t_X8_kindIn l h i c f hL k hk) (by decide) hA rfl (Nat.le_of_ble_eq_true rfl) ⟨(Nat.le_of_ble_eq_true rfl), (Nat.le_of_ble_eq_true rfl)⟩ ⟨(Nat.le_of_ble_eq_true rfl), (Nat.le_of_ble_eq_true rfl)⟩ rfl rfl dX8_bodyBit_56 rfl ?_
  refine g_iconst (q := 60) dX8_bodyBit_59 rfl ?_
  refine g_icmp_ne (t := 98) (q := 63) ⟨by omega, by omega⟩ ⟨by omega, by omega⟩ dX8_bodyBit_60 rfl rfl (fun c60 => ?_) (fun c60 => ?_)
  · have hk1 : knd (pb c f (k + 1) - pb c f k) (wd f (pb c f k) (pb c f (k + 1))) = 1 := by omega
    refine g_iconst (q := 99) dX8_bodyBit_98 rfl ?_
    refine g_istore (q := 101) (al2 := [some (.ref (90)), some (.int (iI (i))), some (.int (iI (k))), some (.int (iI (q))), some (.int (iI (f (pb c f k)))), some (.int (iI (pb c f k))), some (.int (iI (pb c f (k + 1) - pb c f k))), some (.int (iI (fct f (pb c f k) (pb c f (k + 1)) 5))), some (.int (iI (hiL (pb c f (k + 1) - pb c f k) (wd f (pb c f k) (pb c f (k + 1))) (fct f (pb c f k) (pb c f (k + 1)) 5)))), some (.int (iI (0))), some (.int (iI (0))), none]) (by decide) rfl rfl dX8_bodyBit_99 rfl ?_
    refine loopG (σ := Int × Int) (P := fun zz => match zz with | (m, b) => G l noX mX8_bodyBit 5 0 0 (rP (.int (iI (bbit f (pb c f k) (pb c f (k + 1)) q))) h) 0 0 101 [some (.ref (90)), some (.int (iI (i))), some (.int (iI (k))), some (.int (iI (q))), some (.int (iI (f (pb c f k)))), some (.int (iI (pb c f k))), some (.int (iI (pb c f (k + 1) - pb c f k))), some (.int (iI (fct f (pb c f k) (pb c f (k + 1)) 5))), some (.int (iI (hiL (pb c f (k + 1) - pb c f k) (wd f (pb c f k) (pb c f (k + 1))) (fct f (pb c f k) (pb c f (k + 1)) 5)))), some (.int (iI (b))), some (.int (iI (m))), none] [] NN h) (I := fun zz => match zz with | (m, b) => 0 ≤ m ∧ m ≤ pb c f (k + 1) - pb c f k ∧ b = ind (∃ t, pb c f k ≤ t ∧ t < pb c f k + m ∧ f t - f (pb c f k) = q)) (fun zz => match zz with | (m, b) => (pb c f (k + 1) - pb c f k - m).toNat) ?_ (0, 0) ⟨Int.le_refl _, by omega, (ind_f (fun ⟨t, a, b, _⟩ => by omega)).symm⟩
    rintro ⟨m, b⟩ hI ih
    obtain ⟨i0, i1, eb⟩ := hI
    have b01 : b = 0 ∨ b = 1 := by rw [eb]; exact ind_rng _
    refine g_iload (q := 103) rfl dX8_bodyBit_101 rfl ?_
    refine g_iload (q := 105) rfl dX8_bodyBit_103 rfl ?_
    refine g_icmp_ge (t := 166) (q := 108) ⟨by omega, by omega⟩ ⟨by omega, by omega⟩ dX8_bodyBit_105 rfl rfl (fun c105 => ?_) (fun c105 => ?_)
    · have er : bbit f (pb c f k) (pb c f (k + 1)) q = b := by
        unfold bbit bmb
        rw [if_pos hk1, eb, show pb c f k + m = pb c f (k + 1) by omega]
      rw [er]
      refine g_iload (q := 168) rfl dX8_bodyBit_166 rfl ?_
      exact g_ireturn (fun z => NN_f z) (Nat.le_of_ble_eq_true rfl) (Nat.le_of_ble_eq_true rfl) dX8_bodyBit_168 rfl rP_in
    · have r1 := o3 (pb c f k + m) (by omega) (by omega)
      have r2 : f (pb c f k) ≤ f (pb c f k + m) := by
        by_cases z : m = 0
        · rw [z, Int.add_zero]; exact Int.le_refl _
        · exact Int.le_of_lt (o4 (pb c f k) (pb c f k + m) (by omega) (by omega) (by omega))
      refine g_aload_n (q := 109) rfl rfl dX8_bodyBit_108 rfl ?_
      refine g_iload_n (q := 110) rfl rfl dX8_bodyBit_109 rfl ?_
      refine g_iload (q := 112) rfl dX8_bodyBit_110 rfl ?_
      refine g_iload (q := 114) rfl dX8_bodyBit_112 rfl ?_
      refine g_iadd (q := 115) dX8_bodyBit_114 rfl ?_
      refine g_Vr (q := 118) (d' := 0) (i := 90) (av := [.int (iI (i)), .int (iI ((pb c f k) + m))]) (st := []) (v := .int (iI (f (pb c f k + m)))) kvX8_56 (t_X8_doc l h i c f hD (pb c f k + m) (by omega) (by omega)) (by decide) hA rfl (Nat.le_of_ble_eq_true rfl) ⟨(Nat.le_of_ble_eq_true rfl), (Nat.le_of_ble_eq_true rfl)⟩ ⟨(Nat.le_of_ble_eq_true rfl), (Nat.le_of_ble_eq_true rfl)⟩ rfl rfl dX8_bodyBit_115 rfl ?_
      refine g_iload (q := 120) rfl dX8_bodyBit_118 rfl ?_
      refine g_isub (q := 121) dX8_bodyBit_120 rfl ?_
      refine g_istore (q := 123) (al2 := [some (.ref (90)), some (.int (iI (i))), some (.int (iI (k))), some (.int (iI (q))), some (.int (iI (f (pb c f k)))), some (.int (iI (pb c f k))), some (.int (iI (pb c f (k + 1) - pb c f k))), some (.int (iI (fct f (pb c f k) (pb c f (k + 1)) 5))), some (.int (iI (hiL (pb c f (k + 1) - pb c f k) (wd f (pb c f k) (pb c f (k + 1))) (fct f (pb c f k) (pb c f (k + 1)) 5)))), some (.int (iI (b))), some (.int (iI (m))), some (.int (iI ((f (pb c f k + m)) - (f (pb c f k)))))]) (by decide) rfl rfl dX8_bodyBit_121 rfl ?_
      refine g_iload (q := 125) rfl dX8_bodyBit_123 rfl ?_
      refine g_aload_n (q := 126) rfl rfl dX8_bodyBit_125 rfl ?_
      refine g_iload_n (q := 127) rfl rfl dX8_bodyBit_126 rfl ?_
      refine g_iload_n (q := 128) rfl rfl dX8_bodyBit_127 rfl ?_
      refine g_Vr (q := 131) (d' := 3) (i := 90) (av := [.int (iI (i)), .int (iI (k))]) (st := [.int (iI (b))]) (v := .int (iI (knd (pb c f (k + 1) - pb c f k) (wd f (pb c f k) (pb c f (k + 1)))))) kvX8_111 (t_X8_kindIn l h i c f hL k hk) (by decide) hA rfl (Nat.le_of_ble_eq_true rfl) ⟨(Nat.le_of_ble_eq_true rfl), (Nat.le_of_ble_eq_true rfl)⟩ ⟨(Nat.le_of_ble_eq_true rfl), (Nat.le_of_ble_eq_true rfl)⟩ rfl rfl dX8_bodyBit_128 rfl ?_
      refine g_iconst (q := 132) dX8_bodyBit_131 rfl ?_
      refine g_icmp_ne (t := 140) (q := 135) ⟨by omega, by omega⟩ ⟨by omega, by omega⟩ dX8_bodyBit_132 rfl rfl (fun c132 => ?_) (fun c132 => ?_)
      · omega
      · refine g_iload (q := 137) rfl dX8_bodyBit_135 rfl ?_
        refine g_goto (q := 148) dX8_bodyBit_137 rfl ?_
        refine g_iload_n (q := 149) rfl rfl dX8_bodyBit_148 rfl ?_
        refine g_icmp_ne (t := 156) (q := 152) ⟨by omega, by omega⟩ ⟨by omega, by omega⟩ dX8_bodyBit_149 rfl rfl (fun c149 => ?_) (fun c149 => ?_)
        · refine g_iconst (q := 157) dX8_bodyBit_156 rfl ?_
          refine g_ior01 (q := 158) b01 (by omega) dX8_bodyBit_157 rfl ?_
          have en : (if b = 0 then (0 : Int) else 1) = ind (∃ t, pb c f k ≤ t ∧ t < pb c f k + (m + 1) ∧ f t - f (pb c f k) = q) := ind_step (B := f (pb c f k + m) - f (pb c f k) = q) eb (Or.inr ⟨by omega, rfl⟩) ⟨fun ⟨t, a, d, g9⟩ => by
              by_cases z : t = pb c f k + m
              · right; rw [← z]; exact g9
              · left; exact ⟨t, a, by omega, g9⟩, fun z => by
              rcases z with ⟨t, a, d, g9⟩ | z
              · exact ⟨t, a, by omega, g9⟩
              · exact ⟨pb c f k + m, by omega, by omega, z⟩⟩
          refine g_istore (q := 160) (al2 := [some (.ref (90)), some (.int (iI (i))), some (.int (iI (k))), some (.int (iI (q))), some (.int (iI (f (pb c f k)))), some (.int (iI (pb c f k))), some (.int (iI (pb c f (k + 1) - pb c f k))), some (.int (iI (fct f (pb c f k) (pb c f (k + 1)) 5))), some (.int (iI (hiL (pb c f (k + 1) - pb c f k) (wd f (pb c f k) (pb c f (k + 1))) (fct f (pb c f k) (pb c f (k + 1)) 5)))), some (.int (iI (if b = 0 then 0 else 1))), some (.int (iI (m))), some (.int (iI ((f (pb c f k + m)) - (f (pb c f k)))))]) (by decide) rfl rfl dX8_bodyBit_158 rfl ?_
          refine g_iinc (q := 163) (al2 := [some (.ref (90)), some (.int (iI (i))), some (.int (iI (k))), some (.int (iI (q))), some (.int (iI (f (pb c f k)))), some (.int (iI (pb c f k))), some (.int (iI (pb c f (k + 1) - pb c f k))), some (.int (iI (fct f (pb c f k) (pb c f (k + 1)) 5))), some (.int (iI (hiL (pb c f (k + 1) - pb c f k) (wd f (pb c f k) (pb c f (k + 1))) (fct f (pb c f k) (pb c f (k + 1)) 5)))), some (.int (iI (if b = 0 then 0 else 1))), some (.int (iI (m + 1))), some (.int (iI ((f (pb c f k + m)) - (f (pb c f k)))))]) rfl (by decide) rfl rfl dX8_bodyBit_160 rfl ?_
          refine g_goto (q := 101) dX8_bodyBit_163 rfl ?_
          refine g_drop (al2 := [some (.ref (90)), some (.int (iI (i))), some (.int (iI (k))), some (.int (iI (q))), some (.int (iI (f (pb c f k)))), some (.int (iI (pb c f k))), some (.int (iI (pb c f (k + 1) - pb c f k))), some (.int (iI (fct f (pb c f k) (pb c f (k + 1)) 5))), some (.int (iI (hiL (pb c f (k + 1) - pb c f k) (wd f (pb c f k) (pb c f (k + 1))) (fct f (pb c f k) (pb c f (k + 1)) 5)))), some (.int (iI (if b = 0 then 0 else 1))), some (.int (iI (m + 1))), none]) 11 rfl ?_
          exact ih (m + 1, _) ⟨by omega, by omega, en⟩ (by show (pb c f (k + 1) - pb c f k - (m + 1)).toNat < (pb c f (k + 1) - pb c f k - m).toNat; omega)
        · refine g_iconst (q := 153) dX8_bodyBit_152 rfl ?_
          refine g_goto (q := 157) dX8_bodyBit_153 rfl ?_
          refine g_ior01 (q := 158) b01 (by omega) dX8_bodyBit_157 rfl ?_
          have en : (if b = 0 then (1 : Int) else 1) = ind (∃ t, pb c f k ≤ t ∧ t < pb c f k + (m + 1) ∧ f t - f (pb c f k) = q) := ind_step (B := f (pb c f k + m) - f (pb c f k) = q) eb (Or.inl ⟨by omega, rfl⟩) ⟨fun ⟨t, a, d, g9⟩ => by
              by_cases z : t = pb c f k + m
              · right; rw [← z]; exact g9
              · left; exact ⟨t, a, by omega, g9⟩, fun z => by
              rcases z with ⟨t, a, d, g9⟩ | z
              · exact ⟨t, a, by omega, g9⟩
              · exact ⟨pb c f k + m, by omega, by omega, z⟩⟩
          refine g_istore (q := 160) (al2 := [some (.ref (90)), some (.int (iI (i))), some (.int (iI (k))), some (.int (iI (q))), some (.int (iI (f (pb c f k)))), some (.int (iI (pb c f k))), some (.int (iI (pb c f (k + 1) - pb c f k))), some (.int (iI (fct f (pb c f k) (pb c f (k + 1)) 5))), some (.int (iI (hiL (pb c f (k + 1) - pb c f k) (wd f (pb c f k) (pb c f (k + 1))) (fct f (pb c f k) (pb c f (k + 1)) 5)))), some (.int (iI (if b = 0 then 1 else 1))), some (.int (iI (m))), some (.int (iI ((f (pb c f k + m)) - (f (pb c f k)))))]) (by decide) rfl rfl dX8_bodyBit_158 rfl ?_
          refine g_iinc (q := 163) (al2 := [some (.ref (90)), some (.int (iI (i))), some (.int (iI (k))), some (.int (iI (q))), some (.int (iI (f (pb c f k)))), some (.int (iI (pb c f k))), some (.int (iI (pb c f (k + 1) - pb c f k))), some (.int (iI (fct f (pb c f k) (pb c f (k + 1)) 5))), some (.int (iI (hiL (pb c f (k + 1) - pb c f k) (wd f (pb c f k) (pb c f (k + 1))) (fct f (pb c f k) (pb c f (k + 1)) 5)))), some (.int (iI (if b = 0 then 1 else 1))), some (.int (iI (m + 1))), some (.int (iI ((f (pb c f k + m)) - (f (pb c f k)))))]) rfl (by decide) rfl rfl dX8_bodyBit_160 rfl ?_
          refine g_goto (q := 101) dX8_bodyBit_163 rfl ?_
          refine g_drop (al2 := [some (.ref (90)), some (.int (iI (i))), some (.int (iI (k))), some (.int (iI (q))), some (.int (iI (f (pb c f k)))), some (.int (iI (pb c f k))), some (.int (iI (pb c f (k + 1) - pb c f k))), some (.int (iI (fct f (pb c f k) (pb c f (k + 1)) 5))), some (.int (iI (hiL (pb c f (k + 1) - pb c f k) (wd f (pb c f k) (pb c f (k + 1))) (fct f (pb c f k) (pb c f (k + 1)) 5)))), some (.int (iI (if b = 0 then 1 else 1))), some (.int (iI (m + 1))), none]) 11 rfl ?_
          exact ih (m + 1, _) ⟨by omega, by omega, en⟩ (by show (pb c f (k + 1) - pb c f k - (m + 1)).toNat < (pb c f (k + 1) - pb c f k - m).toNat; omega)
  · have el5 : fct f (pb c f k) (pb c f (k + 1)) 5 = lb (pb c f (k + 1) - pb c f k) (wd f (pb c f k) (pb c f (k + 1))) := by rw [f5, if_pos (by omega)]
    refine g_iload_n (q := 64) rfl rfl dX8_bodyBit_63 rfl ?_
    refine g_iload (q := 66) rfl dX8_bodyBit_64 rfl ?_
    refine g_icmp_lt (t := 98) (q := 69) ⟨by omega, by omega⟩ ⟨by omega, by omega⟩ dX8_bodyBit_66 rfl rfl (fun c66 => ?_) (fun c66 => ?_)
    · have hq : q < hiL (pb c f (k + 1) - pb c f k) (wd f (pb c f k) (pb c f (k + 1))) (fct f (pb c f k) (pb c f (k + 1)) 5) := by omega
      refine g_iconst (q := 99) dX8_bodyBit_98 rfl ?_
      refine g_istore (q := 101) (al2 := [some (.ref (90)), some (.int (iI (i))), some (.int (iI (k))), some (.int (iI (q))), some (.int (iI (f (pb c f k)))), some (.int (iI (pb c f k))), some (.int (iI (pb c f (k + 1) - pb c f k))), some (.int (iI (fct f (pb c f k) (pb c f (k + 1)) 5))), some (.int (iI (hiL (pb c f (k + 1) - pb c f k) (wd f (pb c f k) (pb c f (k + 1))) (fct f (pb c f k) (pb c f (k + 1)) 5)))), some (.int (iI (0))), some (.int (iI (0))), none]) (by decide) rfl rfl dX8_bodyBit_99 rfl ?_
      refine loopG (σ := Int × Int) (P := fun zz => match zz with | (m, b) => G l noX mX8_bodyBit 5 0 0 (rP (.int (iI (bbit f (pb c f k) (pb c f (k + 1)) q))) h) 0 0 101 [some (.ref (90)), some (.int (iI (i))), some (.int (iI (k))), some (.int (iI (q))), some (.int (iI (f (pb c f k)))), some (.int (iI (pb c f k))), some (.int (iI (pb c f (k + 1) - pb c f k))), some (.int (iI (fct f (pb c f k) (pb c f (k + 1)) 5))), some (.int (iI (hiL (pb c f (k + 1) - pb c f k) (wd f (pb c f k) (pb c f (k + 1))) (fct f (pb c f k) (pb c f (k + 1)) 5)))), some (.int (iI (b))), some (.int (iI (m))), none] [] NN h) (I := fun zz => match zz with | (m, b) => 0 ≤ m ∧ m ≤ pb c f (k + 1) - pb c f k ∧ b = ind (∃ t, pb c f k ≤ t ∧ t < pb c f k + m ∧ t - pb c f k + (f t - f (pb c f k)) / 2 ^ (fct f (pb c f k) (pb c f (k + 1)) 5).toNat = q)) (fun zz => match zz with | (m, b) => (pb c f (k + 1) - pb c f k - m).toNat) ?_ (0, 0) ⟨Int.le_refl _, by omega, (ind_f (fun ⟨t, a, b, _⟩ => by omega)).symm⟩
      rintro ⟨m, b⟩ hI ih
      obtain ⟨i0, i1, eb⟩ := hI
      have b01 : b = 0 ∨ b = 1 := by rw [eb]; exact ind_rng _
      refine g_iload (q := 103) rfl dX8_bodyBit_101 rfl ?_
      refine g_iload (q := 105) rfl dX8_bodyBit_103 rfl ?_
      refine g_icmp_ge (t := 166) (q := 108) ⟨by omega, by omega⟩ ⟨by omega, by omega⟩ dX8_bodyBit_105 rfl rfl (fun c105 => ?_) (fun c105 => ?_)
      · have er : bbit f (pb c f k) (pb c f (k + 1)) q = b := by
          unfold bbit hib
          rw [if_neg (by omega), ← el5, if_pos hq, eb, show pb c f k + m = pb c f (k + 1) by omega]
        rw [er]
        refine g_iload (q := 168) rfl dX8_bodyBit_166 rfl ?_
        exact g_ireturn (fun z => NN_f z) (Nat.le_of_ble_eq_true rfl) (Nat.le_of_ble_eq_true rfl) dX8_bodyBit_168 rfl rP_in
      · have r1 := o3 (pb c f k + m) (by omega) (by omega)
        have r2 : f (pb c f k) ≤ f (pb c f k + m) := by
          by_cases z : m = 0
          · rw [z, Int.add_zero]; exact Int.le_refl _
          · exact Int.le_of_lt (o4 (pb c f k) (pb c f k + m) (by omega) (by omega) (by omega))
        refine g_aload_n (q := 109) rfl rfl dX8_bodyBit_108 rfl ?_
        refine g_iload_n (q := 110) rfl rfl dX8_bodyBit_109 rfl ?_
        refine g_iload (q := 112) rfl dX8_bodyBit_110 rfl ?_
        refine g_iload (q := 114) rfl dX8_bodyBit_112 rfl ?_
        refine g_iadd (q := 115) dX8_bodyBit_114 rfl ?_
        refine g_Vr (q := 118) (d' := 0) (i := 90) (av := [.int (iI (i)), .int (iI ((pb c f k) + m))]) (st := []) (v := .int (iI (f (pb c f k + m)))) kvX8_56 (t_X8_doc l h i c f hD (pb c f k + m) (by omega) (by omega)) (by decide) hA rfl (Nat.le_of_ble_eq_true rfl) ⟨(Nat.le_of_ble_eq_true rfl), (Nat.le_of_ble_eq_true rfl)⟩ ⟨(Nat.le_of_ble_eq_true rfl), (Nat.le_of_ble_eq_true rfl)⟩ rfl rfl dX8_bodyBit_115 rfl ?_
        refine g_iload (q := 120) rfl dX8_bodyBit_118 rfl ?_
        refine g_isub (q := 121) dX8_bodyBit_120 rfl ?_
        refine g_istore (q := 123) (al2 := [some (.ref (90)), some (.int (iI (i))), some (.int (iI (k))), some (.int (iI (q))), some (.int (iI (f (pb c f k)))), some (.int (iI (pb c f k))), some (.int (iI (pb c f (k + 1) - pb c f k))), some (.int (iI (fct f (pb c f k) (pb c f (k + 1)) 5))), some (.int (iI (hiL (pb c f (k + 1) - pb c f k) (wd f (pb c f k) (pb c f (k + 1))) (fct f (pb c f k) (pb c f (k + 1)) 5)))), some (.int (iI (b))), some (.int (iI (m))), some (.int (iI ((f (pb c f k + m)) - (f (pb c f k)))))]) (by decide) rfl rfl dX8_bodyBit_121 rfl ?_
        refine g_iload (q := 125) rfl dX8_bodyBit_123 rfl ?_
        refine g_aload_n (q := 126) rfl rfl dX8_bodyBit_125 rfl ?_
        refine g_iload_n (q := 127) rfl rfl dX8_bodyBit_126 rfl ?_
        refine g_iload_n (q := 128) rfl rfl dX8_bodyBit_127 rfl ?_
        refine g_Vr (q := 131) (d' := 3) (i := 90) (av := [.int (iI (i)), .int (iI (k))]) (st := [.int (iI (b))]) (v := .int (iI (knd (pb c f (k + 1) - pb c f k) (wd f (pb c f k) (pb c f (k + 1)))))) kvX8_111 (t_X8_kindIn l h i c f hL k hk) (by decide) hA rfl (Nat.le_of_ble_eq_true rfl) ⟨(Nat.le_of_ble_eq_true rfl), (Nat.le_of_ble_eq_true rfl)⟩ ⟨(Nat.le_of_ble_eq_true rfl), (Nat.le_of_ble_eq_true rfl)⟩ rfl rfl dX8_bodyBit_128 rfl ?_
        refine g_iconst (q := 132) dX8_bodyBit_131 rfl ?_
        refine g_icmp_ne (t := 140) (q := 135) ⟨by omega, by omega⟩ ⟨by omega, by omega⟩ dX8_bodyBit_132 rfl rfl (fun c132 => ?_) (fun c132 => ?_)
        · have dv := div2_nn (a := f (pb c f k + m) - f (pb c f k)) (w := fct f (pb c f k) (pb c f (k + 1)) 5) (by omega)
          refine g_iload (q := 142) rfl dX8_bodyBit_140 rfl ?_
          refine g_iload (q := 144) rfl dX8_bodyBit_142 rfl ?_
          refine g_iload (q := 146) rfl dX8_bodyBit_144 rfl ?_
          refine g_ishr (q := 147) (by omega) (by omega) (by omega) (by omega) dX8_bodyBit_146 rfl ?_
          refine g_iadd (q := 148) dX8_bodyBit_147 rfl ?_
          refine g_iload_n (q := 149) rfl rfl dX8_bodyBit_148 rfl ?_
          have dvm : m + (f (pb c f k + m) - f (pb c f k)) / 2 ^ (fct f (pb c f k) (pb c f (k + 1)) 5).toNat = pb c f k + m - pb c f k + (f (pb c f k + m) - f (pb c f k)) / 2 ^ (fct f (pb c f k) (pb c f (k + 1)) 5).toNat := by omega
          refine g_icmp_ne (t := 156) (q := 152) ⟨by omega, by omega⟩ ⟨by omega, by omega⟩ dX8_bodyBit_149 rfl rfl (fun c149 => ?_) (fun c149 => ?_)
          · refine g_iconst (q := 157) dX8_bodyBit_156 rfl ?_
            refine g_ior01 (q := 158) b01 (by omega) dX8_bodyBit_157 rfl ?_
            have en : (if b = 0 then (0 : Int) else 1) = ind (∃ t, pb c f k ≤ t ∧ t < pb c f k + (m + 1) ∧ t - pb c f k + (f t - f (pb c f k)) / 2 ^ (fct f (pb c f k) (pb c f (k + 1)) 5).toNat = q) := ind_step (B := (pb c f k + m) - pb c f k + (f (pb c f k + m) - f (pb c f k)) / 2 ^ (fct f (pb c f k) (pb c f (k + 1)) 5).toNat = q) eb (Or.inr ⟨by omega, rfl⟩) ⟨fun ⟨t, a, d, g9⟩ => by
                by_cases z : t = pb c f k + m
                · right; rw [← z]; exact g9
                · left; exact ⟨t, a, by omega, g9⟩, fun z => by
                rcases z with ⟨t, a, d, g9⟩ | z
                · exact ⟨t, a, by omega, g9⟩
                · exact ⟨pb c f k + m, by omega, by omega, z⟩⟩
            refine g_istore (q := 160) (al2 := [some (.ref (90)), some (.int (iI (i))), some (.int (iI (k))), some (.int (iI (q))), some (.int (iI (f (pb c f k)))), some (.int (iI (pb c f k))), some (.int (iI (pb c f (k + 1) - pb c f k))), some (.int (iI (fct f (pb c f k) (pb c f (k + 1)) 5))), some (.int (iI (hiL (pb c f (k + 1) - pb c f k) (wd f (pb c f k) (pb c f (k + 1))) (fct f (pb c f k) (pb c f (k + 1)) 5)))), some (.int (iI (if b = 0 then 0 else 1))), some (.int (iI (m))), some (.int (iI ((f (pb c f k + m)) - (f (pb c f k)))))]) (by decide) rfl rfl dX8_bodyBit_158 rfl ?_
            refine g_iinc (q := 163) (al2 := [some (.ref (90)), some (.int (iI (i))), some (.int (iI (k))), some (.int (iI (q))), some (.int (iI (f (pb c f k)))), some (.int (iI (pb c f k))), some (.int (iI (pb c f (k + 1) - pb c f k))), some (.int (iI (fct f (pb c f k) (pb c f (k + 1)) 5))), some (.int (iI (hiL (pb c f (k + 1) - pb c f k) (wd f (pb c f k) (pb c f (k + 1))) (fct f (pb c f k) (pb c f (k + 1)) 5)))), some (.int (iI (if b = 0 then 0 else 1))), some (.int (iI (m + 1))), some (.int (iI ((f (pb c f k + m)) - (f (pb c f k)))))]) rfl (by decide) rfl rfl dX8_bodyBit_160 rfl ?_
            refine g_goto (q := 101) dX8_bodyBit_163 rfl ?_
            refine g_drop (al2 := [some (.ref (90)), some (.int (iI (i))), some (.int (iI (k))), some (.int (iI (q))), some (.int (iI (f (pb c f k)))), some (.int (iI (pb c f k))), some (.int (iI (pb c f (k + 1) - pb c f k))), some (.int (iI (fct f (pb c f k) (pb c f (k + 1)) 5))), some (.int (iI (hiL (pb c f (k + 1) - pb c f k) (wd f (pb c f k) (pb c f (k + 1))) (fct f (pb c f k) (pb c f (k + 1)) 5)))), some (.int (iI (if b = 0 then 0 else 1))), some (.int (iI (m + 1))), none]) 11 rfl ?_
            exact ih (m + 1, _) ⟨by omega, by omega, en⟩ (by show (pb c f (k + 1) - pb c f k - (m + 1)).toNat < (pb c f (k + 1) - pb c f k - m).toNat; omega)
          · refine g_iconst (q := 153) dX8_bodyBit_152 rfl ?_
            refine g_goto (q := 157) dX8_bodyBit_153 rfl ?_
            refine g_ior01 (q := 158) b01 (by omega) dX8_bodyBit_157 rfl ?_
            have en : (if b = 0 then (1 : Int) else 1) = ind (∃ t, pb c f k ≤ t ∧ t < pb c f k + (m + 1) ∧ t - pb c f k + (f t - f (pb c f k)) / 2 ^ (fct f (pb c f k) (pb c f (k + 1)) 5).toNat = q) := ind_step (B := (pb c f k + m) - pb c f k + (f (pb c f k + m) - f (pb c f k)) / 2 ^ (fct f (pb c f k) (pb c f (k + 1)) 5).toNat = q) eb (Or.inl ⟨by omega, rfl⟩) ⟨fun ⟨t, a, d, g9⟩ => by
                by_cases z : t = pb c f k + m
                · right; rw [← z]; exact g9
                · left; exact ⟨t, a, by omega, g9⟩, fun z => by
                rcases z with ⟨t, a, d, g9⟩ | z
                · exact ⟨t, a, by omega, g9⟩
                · exact ⟨pb c f k + m, by omega, by omega, z⟩⟩
            refine g_istore (q := 160) (al2 := [some (.ref (90)), some (.int (iI (i))), some (.int (iI (k))), some (.int (iI (q))), some (.int (iI (f (pb c f k)))), some (.int (iI (pb c f k))), some (.int (iI (pb c f (k + 1) - pb c f k))), some (.int (iI (fct f (pb c f k) (pb c f (k + 1)) 5))), some (.int (iI (hiL (pb c f (k + 1) - pb c f k) (wd f (pb c f k) (pb c f (k + 1))) (fct f (pb c f k) (pb c f (k + 1)) 5)))), some (.int (iI (if b = 0 then 1 else 1))), some (.int (iI (m))), some (.int (iI ((f (pb c f k + m)) - (f (pb c f k)))))]) (by decide) rfl rfl dX8_bodyBit_158 rfl ?_
            refine g_iinc (q := 163) (al2 := [some (.ref (90)), some (.int (iI (i))), some (.int (iI (k))), some (.int (iI (q))), some (.int (iI (f (pb c f k)))), some (.int (iI (pb c f k))), some (.int (iI (pb c f (k + 1) - pb c f k))), some (.int (iI (fct f (pb c f k) (pb c f (k + 1)) 5))), some (.int (iI (hiL (pb c f (k + 1) - pb c f k) (wd f (pb c f k) (pb c f (k + 1))) (fct f (pb c f k) (pb c f (k + 1)) 5)))), some (.int (iI (if b = 0 then 1 else 1))), some (.int (iI (m + 1))), some (.int (iI ((f (pb c f k + m)) - (f (pb c f k)))))]) rfl (by decide) rfl rfl dX8_bodyBit_160 rfl ?_
            refine g_goto (q := 101) dX8_bodyBit_163 rfl ?_
            refine g_drop (al2 := [some (.ref (90)), some (.int (iI (i))), some (.int (iI (k))), some (.int (iI (q))), some (.int (iI (f (pb c f k)))), some (.int (iI (pb c f k))), some (.int (iI (pb c f (k + 1) - pb c f k))), some (.int (iI (fct f (pb c f k) (pb c f (k + 1)) 5))), some (.int (iI (hiL (pb c f (k + 1) - pb c f k) (wd f (pb c f k) (pb c f (k + 1))) (fct f (pb c f k) (pb c f (k + 1)) 5)))), some (.int (iI (if b = 0 then 1 else 1))), some (.int (iI (m + 1))), none]) 11 rfl ?_
            exact ih (m + 1, _) ⟨by omega, by omega, en⟩ (by show (pb c f (k + 1) - pb c f k - (m + 1)).toNat < (pb c f (k + 1) - pb c f k - m).toNat; omega)
        · omega
    · have lp := lb_pos hO k0 k1 k2 (by omega) (by rw [← el5]; omega) q1
      rw [← el5] at lp
      obtain ⟨lp0, lp1⟩ := lp
      have dq : 0 ≤ (q - hiL (pb c f (k + 1) - pb c f k) (wd f (pb c f k) (pb c f (k + 1))) (fct f (pb c f k) (pb c f (k + 1)) 5)) / (fct f (pb c f k) (pb c f (k + 1)) 5) := Int.ediv_nonneg (by omega) (by omega)
      have mq : 0 ≤ (q - hiL (pb c f (k + 1) - pb c f k) (wd f (pb c f k) (pb c f (k + 1))) (fct f (pb c f k) (pb c f (k + 1)) 5)) % (fct f (pb c f k) (pb c f (k + 1)) 5) ∧ (q - hiL (pb c f (k + 1) - pb c f k) (wd f (pb c f k) (pb c f (k + 1))) (fct f (pb c f k) (pb c f (k + 1)) 5)) % (fct f (pb c f k) (pb c f (k + 1)) 5) < fct f (pb c f k) (pb c f (k + 1)) 5 := ⟨Int.emod_nonneg _ (by omega), Int.emod_lt_of_pos _ lp0⟩
      have r1 := o3 (pb c f k + (q - hiL (pb c f (k + 1) - pb c f k) (wd f (pb c f k) (pb c f (k + 1))) (fct f (pb c f k) (pb c f (k + 1)) 5)) / (fct f (pb c f k) (pb c f (k + 1)) 5)) (by omega) (by omega)
      have r2 : f (pb c f k) ≤ f (pb c f k + (q - hiL (pb c f (k + 1) - pb c f k) (wd f (pb c f k) (pb c f (k + 1))) (fct f (pb c f k) (pb c f (k + 1)) 5)) / (fct f (pb c f k) (pb c f (k + 1)) 5)) := by
        by_cases z : (q - hiL (pb c f (k + 1) - pb c f k) (wd f (pb c f k) (pb c f (k + 1))) (fct f (pb c f k) (pb c f (k + 1)) 5)) / (fct f (pb c f k) (pb c f (k + 1)) 5) = 0
        · rw [z, Int.add_zero]; exact Int.le_refl _
        · exact Int.le_of_lt (o4 (pb c f k) (pb c f k + (q - hiL (pb c f (k + 1) - pb c f k) (wd f (pb c f k) (pb c f (k + 1))) (fct f (pb c f k) (pb c f (k + 1)) 5)) / (fct f (pb c f k) (pb c f (k + 1)) 5)) (by omega) (by omega) (by omega))
      have dv := div2_nn (a := f (pb c f k + (q - hiL (pb c f (k + 1) - pb c f k) (wd f (pb c f k) (pb c f (k + 1))) (fct f (pb c f k) (pb c f (k + 1)) 5)) / (fct f (pb c f k) (pb c f (k + 1)) 5)) - f (pb c f k)) (w := (q - hiL (pb c f (k + 1) - pb c f k) (wd f (pb c f k) (pb c f (k + 1))) (fct f (pb c f k) (pb c f (k + 1)) 5)) % (fct f (pb c f k) (pb c f (k + 1)) 5)) (by omega)
      refine g_aload_n (q := 70) rfl rfl dX8_bodyBit_69 rfl ?_
      refine g_iload_n (q := 71) rfl rfl dX8_bodyBit_70 rfl ?_
      refine g_iload (q := 73) rfl dX8_bodyBit_71 rfl ?_
      refine g_iload_n (q := 74) rfl rfl dX8_bodyBit_73 rfl ?_
      refine g_iload (q := 76) rfl dX8_bodyBit_74 rfl ?_
      refine g_isub (q := 77) dX8_bodyBit_76 rfl ?_
      refine g_iload (q := 79) rfl dX8_bodyBit_77 rfl ?_
      refine g_idiv (q := 80) (by omega) (by omega) (by omega) (by omega) dX8_bodyBit_79 rfl ?_
      refine g_iadd (q := 81) dX8_bodyBit_80 rfl ?_
      refine g_Vr (q := 84) (d' := 0) (i := 90) (av := [.int (iI (i)), .int (iI ((pb c f k) + ((q - (hiL (pb c f (k + 1) - pb c f k) (wd f (pb c f k) (pb c f (k + 1))) (fct f (pb c f k) (pb c f (k + 1)) 5))) / (fct f (pb c f k) (pb c f (k + 1)) 5))))]) (st := []) (v := .int (iI (f (pb c f k + (q - hiL (pb c f (k + 1) - pb c f k) (wd f (pb c f k) (pb c f (k + 1))) (fct f (pb c f k) (pb c f (k + 1)) 5)) / (fct f (pb c f k) (pb c f (k + 1)) 5))))) kvX8_56 (t_X8_doc l h i c f hD (pb c f k + (q - hiL (pb c f (k + 1) - pb c f k) (wd f (pb c f k) (pb c f (k + 1))) (fct f (pb c f k) (pb c f (k + 1)) 5)) / (fct f (pb c f k) (pb c f (k + 1)) 5)) (by omega) (by omega)) (by decide) hA rfl (Nat.le_of_ble_eq_true rfl) ⟨(Nat.le_of_ble_eq_true rfl), (Nat.le_of_ble_eq_true rfl)⟩ ⟨(Nat.le_of_ble_eq_true rfl), (Nat.le_of_ble_eq_true rfl)⟩ rfl rfl dX8_bodyBit_81 rfl ?_
      refine g_iload (q := 86) rfl dX8_bodyBit_84 rfl ?_
      refine g_isub (q := 87) dX8_bodyBit_86 rfl ?_
      refine g_iload_n (q := 88) rfl rfl dX8_bodyBit_87 rfl ?_
      refine g_iload (q := 90) rfl dX8_bodyBit_88 rfl ?_
      refine g_isub (q := 91) dX8_bodyBit_90 rfl ?_
      refine g_iload (q := 93) rfl dX8_bodyBit_91 rfl ?_
      refine g_irem (q := 94) (by omega) (by omega) (by omega) (by omega) dX8_bodyBit_93 rfl ?_
      refine g_ishr (q := 95) (by omega) (by omega) (by omega) (by omega) dX8_bodyBit_94 rfl ?_
      refine g_iconst (q := 96) dX8_bodyBit_95 rfl ?_
      refine g_iand1 (q := 97) (by omega) (by omega) dX8_bodyBit_96 rfl ?_
      have er : bbit f (pb c f k) (pb c f (k + 1)) q = (f (pb c f k + (q - hiL (pb c f (k + 1) - pb c f k) (wd f (pb c f k) (pb c f (k + 1))) (fct f (pb c f k) (pb c f (k + 1)) 5)) / (fct f (pb c f k) (pb c f (k + 1)) 5)) - f (pb c f k)) / 2 ^ ((q - hiL (pb c f (k + 1) - pb c f k) (wd f (pb c f k) (pb c f (k + 1))) (fct f (pb c f k) (pb c f (k + 1)) 5)) % (fct f (pb c f k) (pb c f (k + 1)) 5)).toNat % 2 := by
        unfold bbit lob bt
        rw [if_neg (by omega), ← el5, if_neg (by omega)]
      rw [er]
      exact g_ireturn (fun z => NN_f z) (Nat.le_of_ble_eq_true rfl) (Nat.le_of_ble_eq_true rfl) dX8_bodyBit_97 rfl rP_in
set_option maxRecDepth 4000 in
theorem t_X8_bitOf (l : Launch) (h : EHp) (i : Nat) (c : Int) (f : Int → Int) (hL : MLay h i c f) (j : Int) (j0 : 0 ≤ j) (j1 : j < szP c f (pn c f)) : CT l mX8_bitOf 6 0 0 [.ref (90), .int (iI (i)), .int (iI (j))] NN h (rP (.int (iI (cbit c f j))) h) := by
  have hD := hL.1
  obtain ⟨bg, mn, hb, hm, em, hbg⟩ := hL.2
  obtain ⟨th, sl, w, hA, hw, hi, hc, hO, hd⟩ := id hD
  obtain ⟨o1, o2, o3, o4⟩ := id hO
  have p6 := pn_64 hO
  have pno := pn_ok (f := f) o1
  refine CT.of (by decide) (Nat.le_of_ble_eq_true rfl) ?_
  refine g_al (al2 := [some (.ref (90)), some (.int (iI (i))), some (.int (iI (j))), none, none]) rfl ?_
  refine g_iload_n (q := 1) rfl rfl dX8_bitOf_0 rfl ?_
  refine g_istore_n (q := 2) (al2 := [some (.ref (90)), some (.int (iI (i))), some (.int (iI (j))), some (.int (iI (j))), none]) rfl (by decide) rfl rfl dX8_bitOf_1 rfl ?_
  refine g_iconst (q := 3) dX8_bitOf_2 rfl ?_
  refine g_istore (q := 5) (al2 := [some (.ref (90)), some (.int (iI (i))), some (.int (iI (j))), some (.int (iI (j))), some (.int (iI (0)))]) (by decide) rfl rfl dX8_bitOf_3 rfl ?_
  refine loopG (σ := Nat × Int) (P := fun zz => match zz with | (k, q) => G l noX mX8_bitOf 6 0 0 (rP (.int (iI (cbit c f j))) h) 0 0 5 [some (.ref (90)), some (.int (iI (i))), some (.int (iI (j))), some (.int (iI (q))), some (.int (iI (k)))] [] NN h) (I := fun zz => match zz with | (k, q) => k < pn c f ∧ 0 ≤ q ∧ szP c f k + q = j ∧ cbtF c f (pn c f - k) k q = cbit c f j) (fun zz => match zz with | (k, q) => pn c f - k) ?_ (0, j) ⟨by
      rcases Nat.eq_zero_or_pos (pn c f) with z | z
      · rw [z] at j1; have : szP c f 0 = 0 := rfl; omega
      · exact z, j0, Int.zero_add j, by rw [Nat.sub_zero]; rfl⟩
  rintro ⟨k, q⟩ hI ih
  obtain ⟨hk, q0, eq0, ecb⟩ := hI
  obtain ⟨k0, k1, k2⟩ := hL.pb hk
  have psr := psz_rng hO k0 k1 k2
  have es : szP c f (k + 1) = szP c f k + psz f (pb c f k) (pb c f (k + 1)) := rfl
  have sle := szP_le hO pno.1 (Nat.le_refl (pn c f))
  have skn := szP_le hO pno.1 (show k ≤ pn c f by omega)
  have fs : pn c f - k = (pn c f - (k + 1)) + 1 := by omega
  refine g_iload_n (q := 6) rfl rfl dX8_bitOf_5 rfl ?_
  refine g_aload_n (q := 7) rfl rfl dX8_bitOf_6 rfl ?_
  refine g_iload_n (q := 8) rfl rfl dX8_bitOf_7 rfl ?_
  refine g_iload (q := 10) rfl dX8_bitOf_8 rfl ?_
  refine g_iconst (q := 11) dX8_bitOf_10 rfl ?_
  refine g_Vr (q := 14) (d' := 5) (i := 90) (av := [.int (iI (i)), .int (iI (k)), .int (iI (4))]) (st := [.int (iI (q))]) (v := .int (iI (psz f (pb c f k) (pb c f (k + 1))))) kvX8_120 (t_X8_property l h i c f hL k hk 4 (by decide) (by decide)) (by decide) hA rfl (Nat.le_of_ble_eq_true rfl) ⟨(Nat.le_of_ble_eq_true rfl), (Nat.le_of_ble_eq_true rfl)⟩ ⟨(Nat.le_of_ble_eq_true rfl), (Nat.le_of_ble_eq_true rfl)⟩ rfl rfl dX8_bitOf_11 rfl ?_
  refine g_icmp_lt (t := 34) (q := 17) ⟨by omega, by omega⟩ ⟨by omega, by omega⟩ dX8_bitOf_14 rfl rfl (fun c14 => ?_) (fun c14 => ?_)
  · rw [fs, cbtF_in (by omega)] at ecb
    refine g_iload_n (q := 35) rfl rfl dX8_bitOf_34 rfl ?_
    refine g_bipush (q := 37) (by decide) dX8_bitOf_35 rfl ?_
    refine g_icmp_ge (t := 51) (q := 40) ⟨by omega, by omega⟩ ⟨by omega, by omega⟩ dX8_bitOf_37 rfl rfl (fun c37 => ?_) (fun c37 => ?_)
    · refine g_aload_n (q := 52) rfl rfl dX8_bitOf_51 rfl ?_
      refine g_iload_n (q := 53) rfl rfl dX8_bitOf_52 rfl ?_
      refine g_iload (q := 55) rfl dX8_bitOf_53 rfl ?_
      refine g_iload_n (q := 56) rfl rfl dX8_bitOf_55 rfl ?_
      refine g_bipush (q := 58) (by decide) dX8_bitOf_56 rfl ?_
      refine g_isub (q := 59) dX8_bitOf_58 rfl ?_
      refine g_Vr (q := 62) (d' := 5) (i := 90) (av := [.int (iI (i)), .int (iI (k)), .int (iI (q - 26))]) (st := []) (v := .int (iI (bbit f (pb c f k) (pb c f (k + 1)) (q - 26)))) kvX8_129 (t_X8_bodyBit l h i c f hL k hk (q - 26) (by omega) (by omega)) (by decide) hA rfl (Nat.le_of_ble_eq_true rfl) ⟨(Nat.le_of_ble_eq_true rfl), (Nat.le_of_ble_eq_true rfl)⟩ ⟨(Nat.le_of_ble_eq_true rfl), (Nat.le_of_ble_eq_true rfl)⟩ rfl rfl dX8_bitOf_59 rfl ?_
      have ef : cbit c f j = bbit f (pb c f k) (pb c f (k + 1)) (q - 26) := by rw [← ecb]; unfold pbit; rw [if_neg (by omega)]
      rw [ef]
      exact g_ireturn (fun z => NN_f z) (Nat.le_of_ble_eq_true rfl) (Nat.le_of_ble_eq_true rfl) dX8_bitOf_62 rfl rP_in
    · refine g_aload_n (q := 41) rfl rfl dX8_bitOf_40 rfl ?_
      refine g_iload_n (q := 42) rfl rfl dX8_bitOf_41 rfl ?_
      refine g_iload (q := 44) rfl dX8_bitOf_42 rfl ?_
      refine g_iload_n (q := 45) rfl rfl dX8_bitOf_44 rfl ?_
      refine g_Vr (q := 48) (d' := 4) (i := 90) (av := [.int (iI (i)), .int (iI (k)), .int (iI (q))]) (st := []) (v := .int (iI (hbit f (pb c f k) (pb c f (k + 1)) q))) kvX8_126 (t_X8_headerBit l h i c f hL k hk q (by omega) (by omega)) (by decide) hA rfl (Nat.le_of_ble_eq_true rfl) ⟨(Nat.le_of_ble_eq_true rfl), (Nat.le_of_ble_eq_true rfl)⟩ ⟨(Nat.le_of_ble_eq_true rfl), (Nat.le_of_ble_eq_true rfl)⟩ rfl rfl dX8_bitOf_45 rfl ?_
      refine g_goto (q := 62) dX8_bitOf_48 rfl ?_
      have ef : cbit c f j = hbit f (pb c f k) (pb c f (k + 1)) q := by rw [← ecb]; unfold pbit; rw [if_pos (by omega)]
      rw [ef]
      exact g_ireturn (fun z => NN_f z) (Nat.le_of_ble_eq_true rfl) (Nat.le_of_ble_eq_true rfl) dX8_bitOf_62 rfl rP_in
  · rw [fs, cbtF_out (by omega)] at ecb
    have hk2 : k + 1 < pn c f := by
      rcases Nat.lt_or_ge (k + 1) (pn c f) with z | z
      · exact z
      · have : pn c f = k + 1 := by omega
        rw [this] at j1; omega
    refine g_iload_n (q := 18) rfl rfl dX8_bitOf_17 rfl ?_
    refine g_aload_n (q := 19) rfl rfl dX8_bitOf_18 rfl ?_
    refine g_iload_n (q := 20) rfl rfl dX8_bitOf_19 rfl ?_
    refine g_iload (q := 22) rfl dX8_bitOf_20 rfl ?_
    refine g_iconst (q := 23) dX8_bitOf_22 rfl ?_
    refine g_Vr (q := 26) (d' := 5) (i := 90) (av := [.int (iI (i)), .int (iI (k)), .int (iI (4))]) (st := [.int (iI (q))]) (v := .int (iI (psz f (pb c f k) (pb c f (k + 1))))) kvX8_120 (t_X8_property l h i c f hL k hk 4 (by decide) (by decide)) (by decide) hA rfl (Nat.le_of_ble_eq_true rfl) ⟨(Nat.le_of_ble_eq_true rfl), (Nat.le_of_ble_eq_true rfl)⟩ ⟨(Nat.le_of_ble_eq_true rfl), (Nat.le_of_ble_eq_true rfl)⟩ rfl rfl dX8_bitOf_23 rfl ?_
    refine g_isub (q := 27) dX8_bitOf_26 rfl ?_
    refine g_istore_n (q := 28) (al2 := [some (.ref (90)), some (.int (iI (i))), some (.int (iI (j))), some (.int (iI (q - (psz f (pb c f k) (pb c f (k + 1)))))), some (.int (iI (k)))]) rfl (by decide) rfl rfl dX8_bitOf_27 rfl ?_
    refine g_iinc (q := 31) (al2 := [some (.ref (90)), some (.int (iI (i))), some (.int (iI (j))), some (.int (iI (q - (psz f (pb c f k) (pb c f (k + 1)))))), some (.int (iI (k + 1)))]) rfl (by decide) rfl rfl dX8_bitOf_28 rfl ?_
    refine g_goto (q := 5) dX8_bitOf_31 rfl ?_
    exact ih (k + 1, _) ⟨hk2, by omega, by omega, ecb⟩ (by show pn c f - (k + 1) < pn c f - k; omega)
