/-! ===== the reference: changes ===== -/
set_option maxRecDepth 4000 in
theorem t_X8_append (l : Launch) (h : EHp) (th : Int) (S : ASt) (sv : List ASt) (hM : MRep h th S sv) (i : Nat) (hi : i < 4) (first : Int) (b1 : 0 ≤ first ∧ first ≤ 511) (b5 : dA (S.1 i).1 (S.1 i).2 ((S.1 i).1 - 1) < first) (b6 : (S.1 i).1 + 1 ≤ 64) : CT l mX8_append 2 0 0 [.ref (90), .int (iI (i)), .int (iI (first))] NN h (wP (fun v h' => v = .int (iI ((S.1 i).1 + 1)) ∧ MRep h' 0 (wrL S i ((S.1 i).1 + 1) (apF (S.1 i).1 (S.1 i).2 first 1)) (push4 S sv) ∧ FrM h h')) := by
  obtain ⟨w, pst, bg, mn, lz, hA, ⟨m1, m2, m3, m4, m5⟩, ⟨⟨cs, s1⟩, ⟨ct, s2⟩, ⟨nx, s3⟩, ⟨fd, s4⟩, ⟨od, s5⟩⟩, hW, hP, hY⟩ := id hM
  obtain ⟨x1, x2, x3⟩ := hW.1 i hi
  obtain ⟨o1, o2, o3, o4⟩ := id x2
  have ag0 : ∀ st : Int, Ag (S.1 i).1 (S.1 i).2 (apF (S.1 i).1 (S.1 i).2 first st) := fun st t a b => by unfold apF; rw [if_pos b]
  have hO1 := apF_LOk x2 b1.1 (by decide : (1:Int) ≤ 1) (by decide : (1:Int) ≤ 1) (by omega) b5 b6
  have ea : (apF (S.1 i).1 (S.1 i).2 first 1) (S.1 i).1 = first := by unfold apF; rw [if_neg (by omega)]; omega
  refine CT.of (by decide) (Nat.le_of_ble_eq_true rfl) ?_
  refine g_al (al2 := [some (.ref (90)), some (.int (iI (i))), some (.int (iI (first)))]) rfl ?_
  refine g_aload_n (q := 1) rfl rfl dX8_append_0 rfl ?_
  refine g_iconst (q := 2) dX8_append_1 rfl ?_
  refine g_put (q := 5) fX8_41 (by decide) hA (Nat.le_of_ble_eq_true rfl) (fun _ _ => rfl) (fun _ _ => rfl) dX8_append_2 rfl ?_
  refine hp_in (fun hh1 ehh1 => ?_)
  have fc2 : hh1 90 = cO 7 [.int (iI (0)), .ref (91), .ref (92), .int (iI (sv.length)), .ref (93), .ref (94), .ref (95), .ref (96), .ref (97), .ref (98), .ref (99), .ref (100)] := by rw [ehh1]; exact ueh_s
  have fc3 : hh1 91 = cI 272 w := by rw [ehh1, ueh_n (by decide)]; exact m1
  refine g_iload_n (q := 6) rfl rfl dX8_append_5 rfl ?_
  have hM0 : MRep hh1 0 S sv := hM.thr fc2 (fun j hj => by rw [ehh1, ueh_n hj])
  have fr0 : ∀ j, j ≠ 90 → hh1 j = h j := fun j hj => by rw [ehh1, ueh_n hj]
  refine g_Sr (q := 9) (d' := 1) (av := [.int (iI (i))]) (st := []) (v := .int (iI (1))) ksX8_60 (t_X8_isList1 l hh1 i (by omega) (by omega)) rfl (Nat.le_of_ble_eq_true rfl) ⟨(Nat.le_of_ble_eq_true rfl), (Nat.le_of_ble_eq_true rfl)⟩ ⟨(Nat.le_of_ble_eq_true rfl), (Nat.le_of_ble_eq_true rfl)⟩ rfl rfl dX8_append_6 rfl ?_
  refine g_if_ne (t := 18) (q := 12) ⟨by omega, by omega⟩ dX8_append_9 rfl rfl (fun c9 => ?_) (fun c9 => ?_)
  · refine g_iload_n (q := 19) rfl rfl dX8_append_18 rfl ?_
    refine g_iconst (q := 20) dX8_append_19 rfl ?_
    refine g_sipush (q := 23) (by decide) dX8_append_20 rfl ?_
    refine g_Sr (q := 26) (d' := 0) (av := [.int (iI (first)), .int (iI (0)), .int (iI (511))]) (st := []) (v := .int (iI (1))) ksX8_45 (t_X8_in1 l hh1 (first) (0) (511) ⟨by omega, by omega⟩ ⟨by omega, by omega⟩ ⟨by omega, by omega⟩ (by omega) (by omega)) rfl (Nat.le_of_ble_eq_true rfl) ⟨(Nat.le_of_ble_eq_true rfl), (Nat.le_of_ble_eq_true rfl)⟩ ⟨(Nat.le_of_ble_eq_true rfl), (Nat.le_of_ble_eq_true rfl)⟩ rfl rfl dX8_append_23 rfl ?_
    refine g_if_eq (t := 38) (q := 29) ⟨by omega, by omega⟩ dX8_append_26 rfl rfl (fun c26 => ?_) (fun c26 => ?_)
    · omega
    · refine g_aload_n (q := 30) rfl rfl dX8_append_29 rfl ?_
      refine g_iload_n (q := 31) rfl rfl dX8_append_30 rfl ?_
      refine g_iload_n (q := 32) rfl rfl dX8_append_31 rfl ?_
      refine g_Vr (q := 35) (d' := 1) (i := 90) (av := [.int (iI (i)), .int (iI (first))]) (st := []) (v := .int (iI (1))) kvX8_68 (t_X8_isBehind1 l hh1 i (S.1 i).1 (S.1 i).2 (hM0.doc hi) first (by omega) (by omega) b5) (by decide) fc2 rfl (Nat.le_of_ble_eq_true rfl) ⟨(Nat.le_of_ble_eq_true rfl), (Nat.le_of_ble_eq_true rfl)⟩ ⟨(Nat.le_of_ble_eq_true rfl), (Nat.le_of_ble_eq_true rfl)⟩ rfl rfl dX8_append_32 rfl ?_
      refine g_if_ne (t := 44) (q := 38) ⟨by omega, by omega⟩ dX8_append_35 rfl rfl (fun c35 => ?_) (fun c35 => ?_)
      · refine g_aload_n (q := 45) rfl rfl dX8_append_44 rfl ?_
        refine g_get (q := 48) fX8_7r (by decide) fc2 rfl dX8_append_45 rfl ?_
        refine g_iload_n (q := 49) rfl rfl dX8_append_48 rfl ?_
        refine g_iaload (q := 50) (by decide) fc3 (by omega) (by omega) (by decide) dX8_append_49 rfl ?_
        rw [x1]
        refine g_bipush (q := 52) (by decide) dX8_append_50 rfl ?_
        refine g_icmp_ne (t := 61) (q := 55) ⟨by omega, by omega⟩ ⟨by omega, by omega⟩ dX8_append_52 rfl rfl (fun c52 => ?_) (fun c52 => ?_)
        · refine g_aload_n (q := 62) rfl rfl dX8_append_61 rfl ?_
          refine g_Vv (q := 65) (d' := 0) (i := 90) (av := []) (st := []) kvX8_72 (t_X8_save l hh1 0 S sv hM0) (by decide) fc2 rfl (Nat.le_of_ble_eq_true rfl) ⟨(Nat.le_of_ble_eq_true rfl), (Nat.le_of_ble_eq_true rfl)⟩ ⟨(Nat.le_of_ble_eq_true rfl), (Nat.le_of_ble_eq_true rfl)⟩ rfl rfl dX8_append_62 rfl (fun h1 hp => ?_)
          obtain ⟨hM1, fr1⟩ := hp
          obtain ⟨w1, pst1, bg1, mn1, lz1, A1, ⟨B1, -⟩, -, W1, -⟩ := id hM1
          refine g_aload_n (q := 66) rfl rfl dX8_append_65 rfl ?_
          refine g_iload_n (q := 67) rfl rfl dX8_append_66 rfl ?_
          refine g_Vv (q := 70) (d' := 1) (i := 90) (av := [.int (iI (i))]) (st := []) kvX8_75 (t_X8_changes l h1 0 S (push4 S sv) hM1 i hi) (by decide) A1 rfl (Nat.le_of_ble_eq_true rfl) ⟨(Nat.le_of_ble_eq_true rfl), (Nat.le_of_ble_eq_true rfl)⟩ ⟨(Nat.le_of_ble_eq_true rfl), (Nat.le_of_ble_eq_true rfl)⟩ rfl rfl dX8_append_67 rfl (fun h2 hp => ?_)
          obtain ⟨hM2, fr2⟩ := hp
          obtain ⟨w2, pst2, bg2, mn2, lz2, ⟨A2, ⟨B2, -⟩, -, W2, -⟩, -⟩ := id hM2
          have hM3 := MRL.as hi hM2 (ag0 1)
          refine g_aload_n (q := 71) rfl rfl dX8_append_70 rfl ?_
          refine g_iload_n (q := 72) rfl rfl dX8_append_71 rfl ?_
          refine g_iload_n (q := 73) rfl rfl dX8_append_72 rfl ?_
          refine g_Vv (q := 76) (d' := 0) (i := 90) (av := [.int (iI (i)), .int (iI (first))]) (st := []) kvX8_78 (by have := t_X8_add l h2 0 (chg S i) (push4 S sv) i hi (S.1 i).1 (apF (S.1 i).1 (S.1 i).2 first 1) hM3 hO1; rw [ea] at this; exact this) (by decide) A2 rfl (Nat.le_of_ble_eq_true rfl) ⟨(Nat.le_of_ble_eq_true rfl), (Nat.le_of_ble_eq_true rfl)⟩ ⟨(Nat.le_of_ble_eq_true rfl), (Nat.le_of_ble_eq_true rfl)⟩ rfl rfl dX8_append_73 rfl (fun h4 hp => ?_)
          obtain ⟨hM4, fr4⟩ := hp
          obtain ⟨w4, pst4, bg4, mn4, lz4, ⟨A4, ⟨B4, -⟩, -, W4, -⟩, -⟩ := id hM4
          have y1 : w4 i = (S.1 i).1 + 1 := by have := (W4.1 i hi).1; rw [setL_s] at this; exact this
          refine g_aload_n (q := 77) rfl rfl dX8_append_76 rfl ?_
          refine g_get (q := 80) fX8_7r (by decide) A4 rfl dX8_append_77 rfl ?_
          refine g_iload_n (q := 81) rfl rfl dX8_append_80 rfl ?_
          refine g_iaload (q := 82) (by decide) B4 (by omega) (by omega) (by decide) dX8_append_81 rfl ?_
          rw [y1]
          exact g_ireturn (fun z => NN_f z) (Nat.le_of_ble_eq_true rfl) (Nat.le_of_ble_eq_true rfl) dX8_append_82 rfl (wP_in ⟨rfl, hM4.rep, fun j hj => (fr4 j (by omega)).trans ((fr2 j (by omega) (by omega)).trans ((fr1 j (by omega) (by omega)).trans (fr0 j (by omega))))⟩)
        · omega
      · omega
  · omega
set_option maxRecDepth 4000 in
theorem f_X8_append (l : Launch) (h : EHp) (th : Int) (S : ASt) (sv : List ASt) (hM : MRep h th S sv) (i : Int) (hi : IR i) (h0 : i < 0 ∨ 4 ≤ i) (first : Int) : CT l mX8_append 2 0 0 [.ref (90), .int (iI (i)), .int (iI (first))] NN h (wP (fun v h' => v = .int (iI 0) ∧ MRep h' 1 S sv ∧ FrM h h')) := by
  obtain ⟨w, pst, bg, mn, lz, hA, ⟨m1, m2, m3, m4, m5⟩, ⟨⟨cs, s1⟩, ⟨ct, s2⟩, ⟨nx, s3⟩, ⟨fd, s4⟩, ⟨od, s5⟩⟩, hW, hP, hY⟩ := id hM
  refine CT.of (by decide) (Nat.le_of_ble_eq_true rfl) ?_
  refine g_al (al2 := [some (.ref (90)), some (.int (iI (i))), some (.int (iI (first)))]) rfl ?_
  refine g_aload_n (q := 1) rfl rfl dX8_append_0 rfl ?_
  refine g_iconst (q := 2) dX8_append_1 rfl ?_
  refine g_put (q := 5) fX8_41 (by decide) hA (Nat.le_of_ble_eq_true rfl) (fun _ _ => rfl) (fun _ _ => rfl) dX8_append_2 rfl ?_
  refine hp_in (fun hh1 ehh1 => ?_)
  have fc2 : hh1 90 = cO 7 [.int (iI (0)), .ref (91), .ref (92), .int (iI (sv.length)), .ref (93), .ref (94), .ref (95), .ref (96), .ref (97), .ref (98), .ref (99), .ref (100)] := by rw [ehh1]; exact ueh_s
  have fc3 : hh1 91 = cI 272 w := by rw [ehh1, ueh_n (by decide)]; exact m1
  refine g_iload_n (q := 6) rfl rfl dX8_append_5 rfl ?_
  have hM0 : MRep hh1 0 S sv := hM.thr fc2 (fun j hj => by rw [ehh1, ueh_n hj])
  have fr0 : ∀ j, j ≠ 90 → hh1 j = h j := fun j hj => by rw [ehh1, ueh_n hj]
  refine g_Sr (q := 9) (d' := 1) (av := [.int (iI (i))]) (st := []) (v := .int (iI (0))) ksX8_60 (t_X8_isList0 l hh1 i hi (by omega)) rfl (Nat.le_of_ble_eq_true rfl) ⟨(Nat.le_of_ble_eq_true rfl), (Nat.le_of_ble_eq_true rfl)⟩ ⟨(Nat.le_of_ble_eq_true rfl), (Nat.le_of_ble_eq_true rfl)⟩ rfl rfl dX8_append_6 rfl ?_
  refine g_if_ne (t := 18) (q := 12) ⟨by omega, by omega⟩ dX8_append_9 rfl rfl (fun c9 => ?_) (fun c9 => ?_)
  · omega
  · refine g_aload_n (q := 13) rfl rfl dX8_append_12 rfl ?_
    refine g_iconst (q := 14) dX8_append_13 rfl ?_
    refine g_Vw (q := 17) (d' := 0) (i := 90) (av := [.int (iI (1))]) (st := []) kvX8_64 (t_X8_fails l hh1 0 S sv hM0 1) (by decide) fc2 rfl (Nat.le_of_ble_eq_true rfl) ⟨(Nat.le_of_ble_eq_true rfl), (Nat.le_of_ble_eq_true rfl)⟩ ⟨(Nat.le_of_ble_eq_true rfl), (Nat.le_of_ble_eq_true rfl)⟩ rfl rfl dX8_append_14 rfl (fun v hz hp => ?_)
    obtain ⟨rfl, p1, p2⟩ := hp
    exact g_ireturn (fun z => NN_f z) (Nat.le_of_ble_eq_true rfl) (Nat.le_of_ble_eq_true rfl) dX8_append_17 rfl (wP_in ⟨rfl, p1, fun j hj => (p2 j (by omega)).trans (fr0 j (by omega))⟩)
set_option maxRecDepth 4000 in
theorem f2_X8_append (l : Launch) (h : EHp) (th : Int) (S : ASt) (sv : List ASt) (hM : MRep h th S sv) (i : Nat) (hi : i < 4) (first : Int) (hf : IR first) (hx : first < 0 ∨ 511 < first) : CT l mX8_append 2 0 0 [.ref (90), .int (iI (i)), .int (iI (first))] NN h (wP (fun v h' => v = .int (iI 0) ∧ MRep h' 2 S sv ∧ FrM h h')) := by
  obtain ⟨w, pst, bg, mn, lz, hA, ⟨m1, m2, m3, m4, m5⟩, ⟨⟨cs, s1⟩, ⟨ct, s2⟩, ⟨nx, s3⟩, ⟨fd, s4⟩, ⟨od, s5⟩⟩, hW, hP, hY⟩ := id hM
  refine CT.of (by decide) (Nat.le_of_ble_eq_true rfl) ?_
  refine g_al (al2 := [some (.ref (90)), some (.int (iI (i))), some (.int (iI (first)))]) rfl ?_
  refine g_aload_n (q := 1) rfl rfl dX8_append_0 rfl ?_
  refine g_iconst (q := 2) dX8_append_1 rfl ?_
  refine g_put (q := 5) fX8_41 (by decide) hA (Nat.le_of_ble_eq_true rfl) (fun _ _ => rfl) (fun _ _ => rfl) dX8_append_2 rfl ?_
  refine hp_in (fun hh1 ehh1 => ?_)
  have fc2 : hh1 90 = cO 7 [.int (iI (0)), .ref (91), .ref (92), .int (iI (sv.length)), .ref (93), .ref (94), .ref (95), .ref (96), .ref (97), .ref (98), .ref (99), .ref (100)] := by rw [ehh1]; exact ueh_s
  have fc3 : hh1 91 = cI 272 w := by rw [ehh1, ueh_n (by decide)]; exact m1
  refine g_iload_n (q := 6) rfl rfl dX8_append_5 rfl ?_
  have hM0 : MRep hh1 0 S sv := hM.thr fc2 (fun j hj => by rw [ehh1, ueh_n hj])
  have fr0 : ∀ j, j ≠ 90 → hh1 j = h j := fun j hj => by rw [ehh1, ueh_n hj]
  refine g_Sr (q := 9) (d' := 1) (av := [.int (iI (i))]) (st := []) (v := .int (iI (1))) ksX8_60 (t_X8_isList1 l hh1 i (by omega) (by omega)) rfl (Nat.le_of_ble_eq_true rfl) ⟨(Nat.le_of_ble_eq_true rfl), (Nat.le_of_ble_eq_true rfl)⟩ ⟨(Nat.le_of_ble_eq_true rfl), (Nat.le_of_ble_eq_true rfl)⟩ rfl rfl dX8_append_6 rfl ?_
  refine g_if_ne (t := 18) (q := 12) ⟨by omega, by omega⟩ dX8_append_9 rfl rfl (fun c9 => ?_) (fun c9 => ?_)
  · refine g_iload_n (q := 19) rfl rfl dX8_append_18 rfl ?_
    refine g_iconst (q := 20) dX8_append_19 rfl ?_
    refine g_sipush (q := 23) (by decide) dX8_append_20 rfl ?_
    refine g_Sr (q := 26) (d' := 0) (av := [.int (iI (first)), .int (iI (0)), .int (iI (511))]) (st := []) (v := .int (iI (0))) ksX8_45 (t_X8_in0 l hh1 (first) (0) (511) hf ⟨by omega, by omega⟩ ⟨by omega, by omega⟩ (by omega)) rfl (Nat.le_of_ble_eq_true rfl) ⟨(Nat.le_of_ble_eq_true rfl), (Nat.le_of_ble_eq_true rfl)⟩ ⟨(Nat.le_of_ble_eq_true rfl), (Nat.le_of_ble_eq_true rfl)⟩ rfl rfl dX8_append_23 rfl ?_
    refine g_if_eq (t := 38) (q := 29) ⟨by omega, by omega⟩ dX8_append_26 rfl rfl (fun c26 => ?_) (fun c26 => ?_)
    · refine g_aload_n (q := 39) rfl rfl dX8_append_38 rfl ?_
      refine g_iconst (q := 40) dX8_append_39 rfl ?_
      refine g_Vw (q := 43) (d' := 0) (i := 90) (av := [.int (iI (2))]) (st := []) kvX8_64 (t_X8_fails l hh1 0 S sv hM0 2) (by decide) fc2 rfl (Nat.le_of_ble_eq_true rfl) ⟨(Nat.le_of_ble_eq_true rfl), (Nat.le_of_ble_eq_true rfl)⟩ ⟨(Nat.le_of_ble_eq_true rfl), (Nat.le_of_ble_eq_true rfl)⟩ rfl rfl dX8_append_40 rfl (fun v hz hp => ?_)
      obtain ⟨rfl, p1, p2⟩ := hp
      exact g_ireturn (fun z => NN_f z) (Nat.le_of_ble_eq_true rfl) (Nat.le_of_ble_eq_true rfl) dX8_append_43 rfl (wP_in ⟨rfl, p1, fun j hj => (p2 j (by omega)).trans (fr0 j (by omega))⟩)
    · omega
  · omega
set_option maxRecDepth 4000 in
theorem f3_X8_append (l : Launch) (h : EHp) (th : Int) (S : ASt) (sv : List ASt) (hM : MRep h th S sv) (i : Nat) (hi : i < 4) (first : Int) (b1 : 0 ≤ first ∧ first ≤ 511) (b5 : ¬ dA (S.1 i).1 (S.1 i).2 ((S.1 i).1 - 1) < first) : CT l mX8_append 2 0 0 [.ref (90), .int (iI (i)), .int (iI (first))] NN h (wP (fun v h' => v = .int (iI 0) ∧ MRep h' 2 S sv ∧ FrM h h')) := by
  obtain ⟨w, pst, bg, mn, lz, hA, ⟨m1, m2, m3, m4, m5⟩, ⟨⟨cs, s1⟩, ⟨ct, s2⟩, ⟨nx, s3⟩, ⟨fd, s4⟩, ⟨od, s5⟩⟩, hW, hP, hY⟩ := id hM
  refine CT.of (by decide) (Nat.le_of_ble_eq_true rfl) ?_
  refine g_al (al2 := [some (.ref (90)), some (.int (iI (i))), some (.int (iI (first)))]) rfl ?_
  refine g_aload_n (q := 1) rfl rfl dX8_append_0 rfl ?_
  refine g_iconst (q := 2) dX8_append_1 rfl ?_
  refine g_put (q := 5) fX8_41 (by decide) hA (Nat.le_of_ble_eq_true rfl) (fun _ _ => rfl) (fun _ _ => rfl) dX8_append_2 rfl ?_
  refine hp_in (fun hh1 ehh1 => ?_)
  have fc2 : hh1 90 = cO 7 [.int (iI (0)), .ref (91), .ref (92), .int (iI (sv.length)), .ref (93), .ref (94), .ref (95), .ref (96), .ref (97), .ref (98), .ref (99), .ref (100)] := by rw [ehh1]; exact ueh_s
  have fc3 : hh1 91 = cI 272 w := by rw [ehh1, ueh_n (by decide)]; exact m1
  refine g_iload_n (q := 6) rfl rfl dX8_append_5 rfl ?_
  have hM0 : MRep hh1 0 S sv := hM.thr fc2 (fun j hj => by rw [ehh1, ueh_n hj])
  have fr0 : ∀ j, j ≠ 90 → hh1 j = h j := fun j hj => by rw [ehh1, ueh_n hj]
  refine g_Sr (q := 9) (d' := 1) (av := [.int (iI (i))]) (st := []) (v := .int (iI (1))) ksX8_60 (t_X8_isList1 l hh1 i (by omega) (by omega)) rfl (Nat.le_of_ble_eq_true rfl) ⟨(Nat.le_of_ble_eq_true rfl), (Nat.le_of_ble_eq_true rfl)⟩ ⟨(Nat.le_of_ble_eq_true rfl), (Nat.le_of_ble_eq_true rfl)⟩ rfl rfl dX8_append_6 rfl ?_
  refine g_if_ne (t := 18) (q := 12) ⟨by omega, by omega⟩ dX8_append_9 rfl rfl (fun c9 => ?_) (fun c9 => ?_)
  · refine g_iload_n (q := 19) rfl rfl dX8_append_18 rfl ?_
    refine g_iconst (q := 20) dX8_append_19 rfl ?_
    refine g_sipush (q := 23) (by decide) dX8_append_20 rfl ?_
    refine g_Sr (q := 26) (d' := 0) (av := [.int (iI (first)), .int (iI (0)), .int (iI (511))]) (st := []) (v := .int (iI (1))) ksX8_45 (t_X8_in1 l hh1 (first) (0) (511) ⟨by omega, by omega⟩ ⟨by omega, by omega⟩ ⟨by omega, by omega⟩ (by omega) (by omega)) rfl (Nat.le_of_ble_eq_true rfl) ⟨(Nat.le_of_ble_eq_true rfl), (Nat.le_of_ble_eq_true rfl)⟩ ⟨(Nat.le_of_ble_eq_true rfl), (Nat.le_of_ble_eq_true rfl)⟩ rfl rfl dX8_append_23 rfl ?_
    refine g_if_eq (t := 38) (q := 29) ⟨by omega, by omega⟩ dX8_append_26 rfl rfl (fun c26 => ?_) (fun c26 => ?_)
    · omega
    · refine g_aload_n (q := 30) rfl rfl dX8_append_29 rfl ?_
      refine g_iload_n (q := 31) rfl rfl dX8_append_30 rfl ?_
      refine g_iload_n (q := 32) rfl rfl dX8_append_31 rfl ?_
      refine g_Vr (q := 35) (d' := 1) (i := 90) (av := [.int (iI (i)), .int (iI (first))]) (st := []) (v := .int (iI (0))) kvX8_68 (t_X8_isBehind0 l hh1 i (S.1 i).1 (S.1 i).2 (hM0.doc hi) first (by omega) (by omega) b5) (by decide) fc2 rfl (Nat.le_of_ble_eq_true rfl) ⟨(Nat.le_of_ble_eq_true rfl), (Nat.le_of_ble_eq_true rfl)⟩ ⟨(Nat.le_of_ble_eq_true rfl), (Nat.le_of_ble_eq_true rfl)⟩ rfl rfl dX8_append_32 rfl ?_
      refine g_if_ne (t := 44) (q := 38) ⟨by omega, by omega⟩ dX8_append_35 rfl rfl (fun c35 => ?_) (fun c35 => ?_)
      · omega
      · refine g_aload_n (q := 39) rfl rfl dX8_append_38 rfl ?_
        refine g_iconst (q := 40) dX8_append_39 rfl ?_
        refine g_Vw (q := 43) (d' := 0) (i := 90) (av := [.int (iI (2))]) (st := []) kvX8_64 (t_X8_fails l hh1 0 S sv hM0 2) (by decide) fc2 rfl (Nat.le_of_ble_eq_true rfl) ⟨(Nat.le_of_ble_eq_true rfl), (Nat.le_of_ble_eq_true rfl)⟩ ⟨(Nat.le_of_ble_eq_true rfl), (Nat.le_of_ble_eq_true rfl)⟩ rfl rfl dX8_append_40 rfl (fun v hz hp => ?_)
        obtain ⟨rfl, p1, p2⟩ := hp
        exact g_ireturn (fun z => NN_f z) (Nat.le_of_ble_eq_true rfl) (Nat.le_of_ble_eq_true rfl) dX8_append_43 rfl (wP_in ⟨rfl, p1, fun j hj => (p2 j (by omega)).trans (fr0 j (by omega))⟩)
  · omega
set_option maxRecDepth 4000 in
theorem f4_X8_append (l : Launch) (h : EHp) (th : Int) (S : ASt) (sv : List ASt) (hM : MRep h th S sv) (i : Nat) (hi : i < 4) (first : Int) (b1 : 0 ≤ first ∧ first ≤ 511) (b5 : dA (S.1 i).1 (S.1 i).2 ((S.1 i).1 - 1) < first) (b6 : 64 < (S.1 i).1 + 1) : CT l mX8_append 2 0 0 [.ref (90), .int (iI (i)), .int (iI (first))] NN h (wP (fun v h' => v = .int (iI 0) ∧ MRep h' 3 S sv ∧ FrM h h')) := by
  obtain ⟨w, pst, bg, mn, lz, hA, ⟨m1, m2, m3, m4, m5⟩, ⟨⟨cs, s1⟩, ⟨ct, s2⟩, ⟨nx, s3⟩, ⟨fd, s4⟩, ⟨od, s5⟩⟩, hW, hP, hY⟩ := id hM
  obtain ⟨x1, x2, x3⟩ := hW.1 i hi
  obtain ⟨o1, o2, o3, o4⟩ := id x2
  refine CT.of (by decide) (Nat.le_of_ble_eq_true rfl) ?_
  refine g_al (al2 := [some (.ref (90)), some (.int (iI (i))), some (.int (iI (first)))]) rfl ?_
  refine g_aload_n (q := 1) rfl rfl dX8_append_0 rfl ?_
  refine g_iconst (q := 2) dX8_append_1 rfl ?_
  refine g_put (q := 5) fX8_41 (by decide) hA (Nat.le_of_ble_eq_true rfl) (fun _ _ => rfl) (fun _ _ => rfl) dX8_append_2 rfl ?_
  refine hp_in (fun hh1 ehh1 => ?_)
  have fc2 : hh1 90 = cO 7 [.int (iI (0)), .ref (91), .ref (92), .int (iI (sv.length)), .ref (93), .ref (94), .ref (95), .ref (96), .ref (97), .ref (98), .ref (99), .ref (100)] := by rw [ehh1]; exact ueh_s
  have fc3 : hh1 91 = cI 272 w := by rw [ehh1, ueh_n (by decide)]; exact m1
  refine g_iload_n (q := 6) rfl rfl dX8_append_5 rfl ?_
  have hM0 : MRep hh1 0 S sv := hM.thr fc2 (fun j hj => by rw [ehh1, ueh_n hj])
  have fr0 : ∀ j, j ≠ 90 → hh1 j = h j := fun j hj => by rw [ehh1, ueh_n hj]
  refine g_Sr (q := 9) (d' := 1) (av := [.int (iI (i))]) (st := []) (v := .int (iI (1))) ksX8_60 (t_X8_isList1 l hh1 i (by omega) (by omega)) rfl (Nat.le_of_ble_eq_true rfl) ⟨(Nat.le_of_ble_eq_true rfl), (Nat.le_of_ble_eq_true rfl)⟩ ⟨(Nat.le_of_ble_eq_true rfl), (Nat.le_of_ble_eq_true rfl)⟩ rfl rfl dX8_append_6 rfl ?_
  refine g_if_ne (t := 18) (q := 12) ⟨by omega, by omega⟩ dX8_append_9 rfl rfl (fun c9 => ?_) (fun c9 => ?_)
  · refine g_iload_n (q := 19) rfl rfl dX8_append_18 rfl ?_
    refine g_iconst (q := 20) dX8_append_19 rfl ?_
    refine g_sipush (q := 23) (by decide) dX8_append_20 rfl ?_
    refine g_Sr (q := 26) (d' := 0) (av := [.int (iI (first)), .int (iI (0)), .int (iI (511))]) (st := []) (v := .int (iI (1))) ksX8_45 (t_X8_in1 l hh1 (first) (0) (511) ⟨by omega, by omega⟩ ⟨by omega, by omega⟩ ⟨by omega, by omega⟩ (by omega) (by omega)) rfl (Nat.le_of_ble_eq_true rfl) ⟨(Nat.le_of_ble_eq_true rfl), (Nat.le_of_ble_eq_true rfl)⟩ ⟨(Nat.le_of_ble_eq_true rfl), (Nat.le_of_ble_eq_true rfl)⟩ rfl rfl dX8_append_23 rfl ?_
    refine g_if_eq (t := 38) (q := 29) ⟨by omega, by omega⟩ dX8_append_26 rfl rfl (fun c26 => ?_) (fun c26 => ?_)
    · omega
    · refine g_aload_n (q := 30) rfl rfl dX8_append_29 rfl ?_
      refine g_iload_n (q := 31) rfl rfl dX8_append_30 rfl ?_
      refine g_iload_n (q := 32) rfl rfl dX8_append_31 rfl ?_
      refine g_Vr (q := 35) (d' := 1) (i := 90) (av := [.int (iI (i)), .int (iI (first))]) (st := []) (v := .int (iI (1))) kvX8_68 (t_X8_isBehind1 l hh1 i (S.1 i).1 (S.1 i).2 (hM0.doc hi) first (by omega) (by omega) b5) (by decide) fc2 rfl (Nat.le_of_ble_eq_true rfl) ⟨(Nat.le_of_ble_eq_true rfl), (Nat.le_of_ble_eq_true rfl)⟩ ⟨(Nat.le_of_ble_eq_true rfl), (Nat.le_of_ble_eq_true rfl)⟩ rfl rfl dX8_append_32 rfl ?_
      refine g_if_ne (t := 44) (q := 38) ⟨by omega, by omega⟩ dX8_append_35 rfl rfl (fun c35 => ?_) (fun c35 => ?_)
      · refine g_aload_n (q := 45) rfl rfl dX8_append_44 rfl ?_
        refine g_get (q := 48) fX8_7r (by decide) fc2 rfl dX8_append_45 rfl ?_
        refine g_iload_n (q := 49) rfl rfl dX8_append_48 rfl ?_
        refine g_iaload (q := 50) (by decide) fc3 (by omega) (by omega) (by decide) dX8_append_49 rfl ?_
        rw [x1]
        refine g_bipush (q := 52) (by decide) dX8_append_50 rfl ?_
        refine g_icmp_ne (t := 61) (q := 55) ⟨by omega, by omega⟩ ⟨by omega, by omega⟩ dX8_append_52 rfl rfl (fun c52 => ?_) (fun c52 => ?_)
        · omega
        · refine g_aload_n (q := 56) rfl rfl dX8_append_55 rfl ?_
          refine g_iconst (q := 57) dX8_append_56 rfl ?_
          refine g_Vw (q := 60) (d' := 0) (i := 90) (av := [.int (iI (3))]) (st := []) kvX8_64 (t_X8_fails l hh1 0 S sv hM0 3) (by decide) fc2 rfl (Nat.le_of_ble_eq_true rfl) ⟨(Nat.le_of_ble_eq_true rfl), (Nat.le_of_ble_eq_true rfl)⟩ ⟨(Nat.le_of_ble_eq_true rfl), (Nat.le_of_ble_eq_true rfl)⟩ rfl rfl dX8_append_57 rfl (fun v hz hp => ?_)
          obtain ⟨rfl, p1, p2⟩ := hp
          exact g_ireturn (fun z => NN_f z) (Nat.le_of_ble_eq_true rfl) (Nat.le_of_ble_eq_true rfl) dX8_append_60 rfl (wP_in ⟨rfl, p1, fun j hj => (p2 j (by omega)).trans (fr0 j (by omega))⟩)
      · omega
  · omega
set_option maxRecDepth 4000 in
theorem t_X8_appendRange (l : Launch) (h : EHp) (th : Int) (S : ASt) (sv : List ASt) (hM : MRep h th S sv) (i : Nat) (hi : i < 4) (first step n : Int) (b1 : 0 ≤ first ∧ first ≤ 511) (b2 : 1 ≤ step ∧ step ≤ 511) (b3 : 1 ≤ n ∧ n ≤ 64) (b4 : first + step * (n - 1) ≤ 511) (b5 : dA (S.1 i).1 (S.1 i).2 ((S.1 i).1 - 1) < first) (b6 : (S.1 i).1 + n ≤ 64) : CT l mX8_appendRange 2 0 0 [.ref (90), .int (iI (i)), .int (iI (first)), .int (iI (step)), .int (iI (n))] NN h (wP (fun v h' => v = .int (iI ((S.1 i).1 + n)) ∧ MRep h' 0 (wrL S i ((S.1 i).1 + n) (apF (S.1 i).1 (S.1 i).2 first step)) (push4 S sv) ∧ FrM h h')) := by
  obtain ⟨w, pst, bg, mn, lz, hA, ⟨m1, m2, m3, m4, m5⟩, ⟨⟨cs, s1⟩, ⟨ct, s2⟩, ⟨nx, s3⟩, ⟨fd, s4⟩, ⟨od, s5⟩⟩, hW, hP, hY⟩ := id hM
  obtain ⟨x1, x2, x3⟩ := hW.1 i hi
  obtain ⟨o1, o2, o3, o4⟩ := id x2
  have ag0 : ∀ st : Int, Ag (S.1 i).1 (S.1 i).2 (apF (S.1 i).1 (S.1 i).2 first st) := fun st t a b => by unfold apF; rw [if_pos b]
  have mu0 : 0 ≤ step * (n - 1) := Int.mul_nonneg (by omega) (by omega)
  have mu1 : step * (n - 1) ≤ 511 * 63 := Int.mul_le_mul (by omega) (by omega) (by omega) (by omega)
  have hO1 := apF_LOk x2 b1.1 b2.1 b3.1 b4 b5 b6
  refine CT.of (by decide) (Nat.le_of_ble_eq_true rfl) ?_
  refine g_al (al2 := [some (.ref (90)), some (.int (iI (i))), some (.int (iI (first))), some (.int (iI (step))), some (.int (iI (n))), none]) rfl ?_
  refine g_aload_n (q := 1) rfl rfl dX8_appendRange_0 rfl ?_
  refine g_iconst (q := 2) dX8_appendRange_1 rfl ?_
  refine g_put (q := 5) fX8_41 (by decide) hA (Nat.le_of_ble_eq_true rfl) (fun _ _ => rfl) (fun _ _ => rfl) dX8_appendRange_2 rfl ?_
  refine hp_in (fun hh1 ehh1 => ?_)
  have fc2 : hh1 90 = cO 7 [.int (iI (0)), .ref (91), .ref (92), .int (iI (sv.length)), .ref (93), .ref (94), .ref (95), .ref (96), .ref (97), .ref (98), .ref (99), .ref (100)] := by rw [ehh1]; exact ueh_s
  have fc3 : hh1 91 = cI 272 w := by rw [ehh1, ueh_n (by decide)]; exact m1
  refine g_iload_n (q := 6) rfl rfl dX8_appendRange_5 rfl ?_
  have hM0 : MRep hh1 0 S sv := hM.thr fc2 (fun j hj => by rw [ehh1, ueh_n hj])
  have fr0 : ∀ j, j ≠ 90 → hh1 j = h j := fun j hj => by rw [ehh1, ueh_n hj]
  refine g_Sr (q := 9) (d' := 1) (av := [.int (iI (i))]) (st := []) (v := .int (iI (1))) ksX8_60 (t_X8_isList1 l hh1 i (by omega) (by omega)) rfl (Nat.le_of_ble_eq_true rfl) ⟨(Nat.le_of_ble_eq_true rfl), (Nat.le_of_ble_eq_true rfl)⟩ ⟨(Nat.le_of_ble_eq_true rfl), (Nat.le_of_ble_eq_true rfl)⟩ rfl rfl dX8_appendRange_6 rfl ?_
  refine g_if_ne (t := 18) (q := 12) ⟨by omega, by omega⟩ dX8_appendRange_9 rfl rfl (fun c9 => ?_) (fun c9 => ?_)
  · refine g_iload_n (q := 19) rfl rfl dX8_appendRange_18 rfl ?_
    refine g_iconst (q := 20) dX8_appendRange_19 rfl ?_
    refine g_sipush (q := 23) (by decide) dX8_appendRange_20 rfl ?_
    refine g_Sr (q := 26) (d' := 0) (av := [.int (iI (first)), .int (iI (0)), .int (iI (511))]) (st := []) (v := .int (iI (1))) ksX8_45 (t_X8_in1 l hh1 (first) (0) (511) ⟨by omega, by omega⟩ ⟨by omega, by omega⟩ ⟨by omega, by omega⟩ (by omega) (by omega)) rfl (Nat.le_of_ble_eq_true rfl) ⟨(Nat.le_of_ble_eq_true rfl), (Nat.le_of_ble_eq_true rfl)⟩ ⟨(Nat.le_of_ble_eq_true rfl), (Nat.le_of_ble_eq_true rfl)⟩ rfl rfl dX8_appendRange_23 rfl ?_
    refine g_if_eq (t := 74) (q := 29) ⟨by omega, by omega⟩ dX8_appendRange_26 rfl rfl (fun c26 => ?_) (fun c26 => ?_)
    · omega
    · refine g_iload_n (q := 30) rfl rfl dX8_appendRange_29 rfl ?_
      refine g_iconst (q := 31) dX8_appendRange_30 rfl ?_
      refine g_sipush (q := 34) (by decide) dX8_appendRange_31 rfl ?_
      refine g_Sr (q := 37) (d' := 0) (av := [.int (iI (step)), .int (iI (1)), .int (iI (511))]) (st := []) (v := .int (iI (1))) ksX8_45 (t_X8_in1 l hh1 (step) (1) (511) ⟨by omega, by omega⟩ ⟨by omega, by omega⟩ ⟨by omega, by omega⟩ (by omega) (by omega)) rfl (Nat.le_of_ble_eq_true rfl) ⟨(Nat.le_of_ble_eq_true rfl), (Nat.le_of_ble_eq_true rfl)⟩ ⟨(Nat.le_of_ble_eq_true rfl), (Nat.le_of_ble_eq_true rfl)⟩ rfl rfl dX8_appendRange_34 rfl ?_
      refine g_if_eq (t := 74) (q := 40) ⟨by omega, by omega⟩ dX8_appendRange_37 rfl rfl (fun c37 => ?_) (fun c37 => ?_)
      · omega
      · refine g_iload (q := 42) rfl dX8_appendRange_40 rfl ?_
        refine g_iconst (q := 43) dX8_appendRange_42 rfl ?_
        refine g_bipush (q := 45) (by decide) dX8_appendRange_43 rfl ?_
        refine g_Sr (q := 48) (d' := 0) (av := [.int (iI (n)), .int (iI (1)), .int (iI (64))]) (st := []) (v := .int (iI (1))) ksX8_45 (t_X8_in1 l hh1 (n) (1) (64) ⟨by omega, by omega⟩ ⟨by omega, by omega⟩ ⟨by omega, by omega⟩ (by omega) (by omega)) rfl (Nat.le_of_ble_eq_true rfl) ⟨(Nat.le_of_ble_eq_true rfl), (Nat.le_of_ble_eq_true rfl)⟩ ⟨(Nat.le_of_ble_eq_true rfl), (Nat.le_of_ble_eq_true rfl)⟩ rfl rfl dX8_appendRange_45 rfl ?_
        refine g_if_eq (t := 74) (q := 51) ⟨by omega, by omega⟩ dX8_appendRange_48 rfl rfl (fun c48 => ?_) (fun c48 => ?_)
        · omega
        · refine g_iload_n (q := 52) rfl rfl dX8_appendRange_51 rfl ?_
          refine g_iload_n (q := 53) rfl rfl dX8_appendRange_52 rfl ?_
          refine g_iload (q := 55) rfl dX8_appendRange_53 rfl ?_
          refine g_iconst (q := 56) dX8_appendRange_55 rfl ?_
          refine g_isub (q := 57) dX8_appendRange_56 rfl ?_
          refine g_imul (q := 58) dX8_appendRange_57 rfl ?_
          refine g_iadd (q := 59) dX8_appendRange_58 rfl ?_
          refine g_sipush (q := 62) (by decide) dX8_appendRange_59 rfl ?_
          refine g_icmp_gt (t := 74) (q := 65) ⟨by omega, by omega⟩ ⟨by omega, by omega⟩ dX8_appendRange_62 rfl rfl (fun c62 => ?_) (fun c62 => ?_)
          · omega
          · refine g_aload_n (q := 66) rfl rfl dX8_appendRange_65 rfl ?_
            refine g_iload_n (q := 67) rfl rfl dX8_appendRange_66 rfl ?_
            refine g_iload_n (q := 68) rfl rfl dX8_appendRange_67 rfl ?_
            refine g_Vr (q := 71) (d' := 1) (i := 90) (av := [.int (iI (i)), .int (iI (first))]) (st := []) (v := .int (iI (1))) kvX8_68 (t_X8_isBehind1 l hh1 i (S.1 i).1 (S.1 i).2 (hM0.doc hi) first (by omega) (by omega) b5) (by decide) fc2 rfl (Nat.le_of_ble_eq_true rfl) ⟨(Nat.le_of_ble_eq_true rfl), (Nat.le_of_ble_eq_true rfl)⟩ ⟨(Nat.le_of_ble_eq_true rfl), (Nat.le_of_ble_eq_true rfl)⟩ rfl rfl dX8_appendRange_68 rfl ?_
            refine g_if_ne (t := 80) (q := 74) ⟨by omega, by omega⟩ dX8_appendRange_71 rfl rfl (fun c71 => ?_) (fun c71 => ?_)
            · refine g_aload_n (q := 81) rfl rfl dX8_appendRange_80 rfl ?_
              refine g_get (q := 84) fX8_7r (by decide) fc2 rfl dX8_appendRange_81 rfl ?_
              refine g_iload_n (q := 85) rfl rfl dX8_appendRange_84 rfl ?_
              refine g_iaload (q := 86) (by decide) fc3 (by omega) (by omega) (by decide) dX8_appendRange_85 rfl ?_
              rw [x1]
              refine g_iload (q := 88) rfl dX8_appendRange_86 rfl ?_
              refine g_iadd (q := 89) dX8_appendRange_88 rfl ?_
              refine g_bipush (q := 91) (by decide) dX8_appendRange_89 rfl ?_
              refine g_icmp_le (t := 100) (q := 94) ⟨by omega, by omega⟩ ⟨by omega, by omega⟩ dX8_appendRange_91 rfl rfl (fun c91 => ?_) (fun c91 => ?_)
              · refine g_aload_n (q := 101) rfl rfl dX8_appendRange_100 rfl ?_
                refine g_Vv (q := 104) (d' := 0) (i := 90) (av := []) (st := []) kvX8_72 (t_X8_save l hh1 0 S sv hM0) (by decide) fc2 rfl (Nat.le_of_ble_eq_true rfl) ⟨(Nat.le_of_ble_eq_true rfl), (Nat.le_of_ble_eq_true rfl)⟩ ⟨(Nat.le_of_ble_eq_true rfl), (Nat.le_of_ble_eq_true rfl)⟩ rfl rfl dX8_appendRange_101 rfl (fun h1 hp => ?_)
                obtain ⟨hM1, fr1⟩ := hp
                obtain ⟨w1, pst1, bg1, mn1, lz1, A1, ⟨B1, -⟩, -, W1, -⟩ := id hM1
                refine g_aload_n (q := 105) rfl rfl dX8_appendRange_104 rfl ?_
                refine g_iload_n (q := 106) rfl rfl dX8_appendRange_105 rfl ?_
                refine g_Vv (q := 109) (d' := 1) (i := 90) (av := [.int (iI (i))]) (st := []) kvX8_75 (t_X8_changes l h1 0 S (push4 S sv) hM1 i hi) (by decide) A1 rfl (Nat.le_of_ble_eq_true rfl) ⟨(Nat.le_of_ble_eq_true rfl), (Nat.le_of_ble_eq_true rfl)⟩ ⟨(Nat.le_of_ble_eq_true rfl), (Nat.le_of_ble_eq_true rfl)⟩ rfl rfl dX8_appendRange_106 rfl (fun h2 hp => ?_)
                obtain ⟨hM2, fr2⟩ := hp
                obtain ⟨w2, pst2, bg2, mn2, lz2, ⟨A2, ⟨B2, -⟩, -, W2, -⟩, -⟩ := id hM2
                have hM3 := MRL.as hi hM2 (ag0 step)
                refine g_iconst (q := 110) dX8_appendRange_109 rfl ?_
                refine g_istore (q := 112) (al2 := [some (.ref (90)), some (.int (iI (i))), some (.int (iI (first))), some (.int (iI (step))), some (.int (iI (n))), some (.int (iI (0)))]) (by decide) rfl rfl dX8_appendRange_110 rfl ?_
                refine loopG (σ := Int × EHp) (P := fun zz => match zz with | (k, h3) => G l noX mX8_appendRange 2 0 0 (wP (fun v h' => v = .int (iI ((S.1 i).1 + n)) ∧ MRep h' 0 (wrL S i ((S.1 i).1 + n) (apF (S.1 i).1 (S.1 i).2 first step)) (push4 S sv) ∧ FrM h h')) 0 0 112 [some (.ref (90)), some (.int (iI (i))), some (.int (iI (first))), some (.int (iI (step))), some (.int (iI (n))), some (.int (iI (k)))] [] NN h3) (I := fun zz => match zz with | (k, h3) => 0 ≤ k ∧ k ≤ n ∧ MRL h3 0 (setL (chg S i) i ((S.1 i).1 + k) (apF (S.1 i).1 (S.1 i).2 first step)) (push4 S sv) i ∧ FrM h h3) (fun zz => match zz with | (k, h3) => (n - k).toNat) ?_ (0, h2) ⟨Int.le_refl _, by omega, by rw [Int.add_zero]; exact hM3, fun j hj => (fr2 j (by omega) (by omega)).trans ((fr1 j (by omega) (by omega)).trans (fr0 j (by omega)))⟩
                rintro ⟨k, h3⟩ hI ih
                obtain ⟨k0, k1, hM5, fr5⟩ := hI
                obtain ⟨w5, pst5, bg5, mn5, lz5, ⟨A5, ⟨B5, -⟩, -, W5, -⟩, -⟩ := id hM5
                refine g_iload (q := 114) rfl dX8_appendRange_112 rfl ?_
                refine g_iload (q := 116) rfl dX8_appendRange_114 rfl ?_
                refine g_icmp_ge (t := 136) (q := 119) ⟨by omega, by omega⟩ ⟨by omega, by omega⟩ dX8_appendRange_116 rfl rfl (fun c116 => ?_) (fun c116 => ?_)
                · have ek : k = n := by omega
                  subst ek
                  have y1 : w5 i = (S.1 i).1 + k := by have := (W5.1 i hi).1; rw [setL_s] at this; exact this
                  refine g_aload_n (q := 137) rfl rfl dX8_appendRange_136 rfl ?_
                  refine g_get (q := 140) fX8_7r (by decide) A5 rfl dX8_appendRange_137 rfl ?_
                  refine g_iload_n (q := 141) rfl rfl dX8_appendRange_140 rfl ?_
                  refine g_iaload (q := 142) (by decide) B5 (by omega) (by omega) (by decide) dX8_appendRange_141 rfl ?_
                  rw [y1]
                  exact g_ireturn (fun z => NN_f z) (Nat.le_of_ble_eq_true rfl) (Nat.le_of_ble_eq_true rfl) dX8_appendRange_142 rfl (wP_in ⟨rfl, hM5.rep, fun j hj => fr5 j hj⟩)
                · have ea : (apF (S.1 i).1 (S.1 i).2 first step) ((S.1 i).1 + k) = first + step * k := by unfold apF; rw [if_neg (by omega), show (S.1 i).1 + k - (S.1 i).1 = k by omega, Int.mul_comm]
                  refine g_aload_n (q := 120) rfl rfl dX8_appendRange_119 rfl ?_
                  refine g_iload_n (q := 121) rfl rfl dX8_appendRange_120 rfl ?_
                  refine g_iload_n (q := 122) rfl rfl dX8_appendRange_121 rfl ?_
                  refine g_iload_n (q := 123) rfl rfl dX8_appendRange_122 rfl ?_
                  refine g_iload (q := 125) rfl dX8_appendRange_123 rfl ?_
                  refine g_imul (q := 126) dX8_appendRange_125 rfl ?_
                  refine g_iadd (q := 127) dX8_appendRange_126 rfl ?_
                  refine g_Vv (q := 130) (d' := 0) (i := 90) (av := [.int (iI (i)), .int (iI (first + (step * k)))]) (st := []) kvX8_78 (by have := t_X8_add l h3 0 (chg S i) (push4 S sv) i hi ((S.1 i).1 + k) (apF (S.1 i).1 (S.1 i).2 first step) hM5 (hO1.low (by omega) (by omega)); rw [ea] at this; exact this) (by decide) A5 rfl (Nat.le_of_ble_eq_true rfl) ⟨(Nat.le_of_ble_eq_true rfl), (Nat.le_of_ble_eq_true rfl)⟩ ⟨(Nat.le_of_ble_eq_true rfl), (Nat.le_of_ble_eq_true rfl)⟩ rfl rfl dX8_appendRange_127 rfl (fun h4 hp => ?_)
                  obtain ⟨hM4, fr4⟩ := hp
                  refine g_iinc (q := 133) (al2 := [some (.ref (90)), some (.int (iI (i))), some (.int (iI (first))), some (.int (iI (step))), some (.int (iI (n))), some (.int (iI (k + 1)))]) rfl (by decide) rfl rfl dX8_appendRange_130 rfl ?_
                  refine g_goto (q := 112) dX8_appendRange_133 rfl ?_
                  exact ih (k + 1, h4) ⟨by omega, by omega, by rw [← Int.add_assoc]; exact hM4, fun j hj => (fr4 j (by omega)).trans (fr5 j hj)⟩ (by show (n - (k + 1)).toNat < (n - k).toNat; omega)
              · omega
            · omega
  · omega
set_option maxRecDepth 4000 in
theorem f_X8_appendRange (l : Launch) (h : EHp) (th : Int) (S : ASt) (sv : List ASt) (hM : MRep h th S sv) (i : Int) (hi : IR i) (h0 : i < 0 ∨ 4 ≤ i) (first step n : Int) : CT l mX8_appendRange 2 0 0 [.ref (90), .int (iI (i)), .int (iI (first)), .int (iI (step)), .int (iI (n))] NN h (wP (fun v h' => v = .int (iI 0) ∧ MRep h' 1 S sv ∧ FrM h h')) := by
  obtain ⟨w, pst, bg, mn, lz, hA, ⟨m1, m2, m3, m4, m5⟩, ⟨⟨cs, s1⟩, ⟨ct, s2⟩, ⟨nx, s3⟩, ⟨fd, s4⟩, ⟨od, s5⟩⟩, hW, hP, hY⟩ := id hM
  refine CT.of (by decide) (Nat.le_of_ble_eq_true rfl) ?_
  refine g_al (al2 := [some (.ref (90)), some (.int (iI (i))), some (.int (iI (first))), some (.int (iI (step))), some (.int (iI (n))), none]) rfl ?_
  refine g_aload_n (q := 1) rfl rfl dX8_appendRange_0 rfl ?_
  refine g_iconst (q := 2) dX8_appendRange_1 rfl ?_
  refine g_put (q := 5) fX8_41 (by decide) hA (Nat.le_of_ble_eq_true rfl) (fun _ _ => rfl) (fun _ _ => rfl) dX8_appendRange_2 rfl ?_
  refine hp_in (fun hh1 ehh1 => ?_)
  have fc2 : hh1 90 = cO 7 [.int (iI (0)), .ref (91), .ref (92), .int (iI (sv.length)), .ref (93), .ref (94), .ref (95), .ref (96), .ref (97), .ref (98), .ref (99), .ref (100)] := by rw [ehh1]; exact ueh_s
  have fc3 : hh1 91 = cI 272 w := by rw [ehh1, ueh_n (by decide)]; exact m1
  refine g_iload_n (q := 6) rfl rfl dX8_appendRange_5 rfl ?_
  have hM0 : MRep hh1 0 S sv := hM.thr fc2 (fun j hj => by rw [ehh1, ueh_n hj])
  have fr0 : ∀ j, j ≠ 90 → hh1 j = h j := fun j hj => by rw [ehh1, ueh_n hj]
  refine g_Sr (q := 9) (d' := 1) (av := [.int (iI (i))]) (st := []) (v := .int (iI (0))) ksX8_60 (t_X8_isList0 l hh1 i hi (by omega)) rfl (Nat.le_of_ble_eq_true rfl) ⟨(Nat.le_of_ble_eq_true rfl), (Nat.le_of_ble_eq_true rfl)⟩ ⟨(Nat.le_of_ble_eq_true rfl), (Nat.le_of_ble_eq_true rfl)⟩ rfl rfl dX8_appendRange_6 rfl ?_
  refine g_if_ne (t := 18) (q := 12) ⟨by omega, by omega⟩ dX8_appendRange_9 rfl rfl (fun c9 => ?_) (fun c9 => ?_)
  · omega
  · refine g_aload_n (q := 13) rfl rfl dX8_appendRange_12 rfl ?_
    refine g_iconst (q := 14) dX8_appendRange_13 rfl ?_
    refine g_Vw (q := 17) (d' := 0) (i := 90) (av := [.int (iI (1))]) (st := []) kvX8_64 (t_X8_fails l hh1 0 S sv hM0 1) (by decide) fc2 rfl (Nat.le_of_ble_eq_true rfl) ⟨(Nat.le_of_ble_eq_true rfl), (Nat.le_of_ble_eq_true rfl)⟩ ⟨(Nat.le_of_ble_eq_true rfl), (Nat.le_of_ble_eq_true rfl)⟩ rfl rfl dX8_appendRange_14 rfl (fun v hz hp => ?_)
    obtain ⟨rfl, p1, p2⟩ := hp
    exact g_ireturn (fun z => NN_f z) (Nat.le_of_ble_eq_true rfl) (Nat.le_of_ble_eq_true rfl) dX8_appendRange_17 rfl (wP_in ⟨rfl, p1, fun j hj => (p2 j (by omega)).trans (fr0 j (by omega))⟩)
set_option maxRecDepth 4000 in
theorem f2_X8_appendRange (l : Launch) (h : EHp) (th : Int) (S : ASt) (sv : List ASt) (hM : MRep h th S sv) (i : Nat) (hi : i < 4) (first step n : Int) (hf : IR first) (hs : IR step) (hn : IR n) (hx : ¬ ((0 ≤ first ∧ first ≤ 511) ∧ (1 ≤ step ∧ step ≤ 511) ∧ (1 ≤ n ∧ n ≤ 64) ∧ first + step * (n - 1) ≤ 511)) : CT l mX8_appendRange 2 0 0 [.ref (90), .int (iI (i)), .int (iI (first)), .int (iI (step)), .int (iI (n))] NN h (wP (fun v h' => v = .int (iI 0) ∧ MRep h' 2 S sv ∧ FrM h h')) := by
  obtain ⟨w, pst, bg, mn, lz, hA, ⟨m1, m2, m3, m4, m5⟩, ⟨⟨cs, s1⟩, ⟨ct, s2⟩, ⟨nx, s3⟩, ⟨fd, s4⟩, ⟨od, s5⟩⟩, hW, hP, hY⟩ := id hM
  refine CT.of (by decide) (Nat.le_of_ble_eq_true rfl) ?_
  refine g_al (al2 := [some (.ref (90)), some (.int (iI (i))), some (.int (iI (first))), some (.int (iI (step))), some (.int (iI (n))), none]) rfl ?_
  refine g_aload_n (q := 1) rfl rfl dX8_appendRange_0 rfl ?_
  refine g_iconst (q := 2) dX8_appendRange_1 rfl ?_
  refine g_put (q := 5) fX8_41 (by decide) hA (Nat.le_of_ble_eq_true rfl) (fun _ _ => rfl) (fun _ _ => rfl) dX8_appendRange_2 rfl ?_
  refine hp_in (fun hh1 ehh1 => ?_)
  have fc2 : hh1 90 = cO 7 [.int (iI (0)), .ref (91), .ref (92), .int (iI (sv.length)), .ref (93), .ref (94), .ref (95), .ref (96), .ref (97), .ref (98), .ref (99), .ref (100)] := by rw [ehh1]; exact ueh_s
  have fc3 : hh1 91 = cI 272 w := by rw [ehh1, ueh_n (by decide)]; exact m1
  refine g_iload_n (q := 6) rfl rfl dX8_appendRange_5 rfl ?_
  have hM0 : MRep hh1 0 S sv := hM.thr fc2 (fun j hj => by rw [ehh1, ueh_n hj])
  have fr0 : ∀ j, j ≠ 90 → hh1 j = h j := fun j hj => by rw [ehh1, ueh_n hj]
  refine g_Sr (q := 9) (d' := 1) (av := [.int (iI (i))]) (st := []) (v := .int (iI (1))) ksX8_60 (t_X8_isList1 l hh1 i (by omega) (by omega)) rfl (Nat.le_of_ble_eq_true rfl) ⟨(Nat.le_of_ble_eq_true rfl), (Nat.le_of_ble_eq_true rfl)⟩ ⟨(Nat.le_of_ble_eq_true rfl), (Nat.le_of_ble_eq_true rfl)⟩ rfl rfl dX8_appendRange_6 rfl ?_
  refine g_if_ne (t := 18) (q := 12) ⟨by omega, by omega⟩ dX8_appendRange_9 rfl rfl (fun c9 => ?_) (fun c9 => ?_)
  · by_cases e1 : 0 ≤ first ∧ first ≤ 511
    · refine g_iload_n (q := 19) rfl rfl dX8_appendRange_18 rfl ?_
      refine g_iconst (q := 20) dX8_appendRange_19 rfl ?_
      refine g_sipush (q := 23) (by decide) dX8_appendRange_20 rfl ?_
      refine g_Sr (q := 26) (d' := 0) (av := [.int (iI (first)), .int (iI (0)), .int (iI (511))]) (st := []) (v := .int (iI (1))) ksX8_45 (t_X8_in1 l hh1 (first) (0) (511) ⟨by omega, by omega⟩ ⟨by omega, by omega⟩ ⟨by omega, by omega⟩ (by omega) (by omega)) rfl (Nat.le_of_ble_eq_true rfl) ⟨(Nat.le_of_ble_eq_true rfl), (Nat.le_of_ble_eq_true rfl)⟩ ⟨(Nat.le_of_ble_eq_true rfl), (Nat.le_of_ble_eq_true rfl)⟩ rfl rfl dX8_appendRange_23 rfl ?_
      refine g_if_eq (t := 74) (q := 29) ⟨by omega, by omega⟩ dX8_appendRange_26 rfl rfl (fun c26 => ?_) (fun c26 => ?_)
      · omega
      · by_cases e2 : 1 ≤ step ∧ step ≤ 511
        · refine g_iload_n (q := 30) rfl rfl dX8_appendRange_29 rfl ?_
          refine g_iconst (q := 31) dX8_appendRange_30 rfl ?_
          refine g_sipush (q := 34) (by decide) dX8_appendRange_31 rfl ?_
          refine g_Sr (q := 37) (d' := 0) (av := [.int (iI (step)), .int (iI (1)), .int (iI (511))]) (st := []) (v := .int (iI (1))) ksX8_45 (t_X8_in1 l hh1 (step) (1) (511) ⟨by omega, by omega⟩ ⟨by omega, by omega⟩ ⟨by omega, by omega⟩ (by omega) (by omega)) rfl (Nat.le_of_ble_eq_true rfl) ⟨(Nat.le_of_ble_eq_true rfl), (Nat.le_of_ble_eq_true rfl)⟩ ⟨(Nat.le_of_ble_eq_true rfl), (Nat.le_of_ble_eq_true rfl)⟩ rfl rfl dX8_appendRange_34 rfl ?_
          refine g_if_eq (t := 74) (q := 40) ⟨by omega, by omega⟩ dX8_appendRange_37 rfl rfl (fun c37 => ?_) (fun c37 => ?_)
          · omega
          · by_cases e3 : 1 ≤ n ∧ n ≤ 64
            · refine g_iload (q := 42) rfl dX8_appendRange_40 rfl ?_
              refine g_iconst (q := 43) dX8_appendRange_42 rfl ?_
              refine g_bipush (q := 45) (by decide) dX8_appendRange_43 rfl ?_
              refine g_Sr (q := 48) (d' := 0) (av := [.int (iI (n)), .int (iI (1)), .int (iI (64))]) (st := []) (v := .int (iI (1))) ksX8_45 (t_X8_in1 l hh1 (n) (1) (64) ⟨by omega, by omega⟩ ⟨by omega, by omega⟩ ⟨by omega, by omega⟩ (by omega) (by omega)) rfl (Nat.le_of_ble_eq_true rfl) ⟨(Nat.le_of_ble_eq_true rfl), (Nat.le_of_ble_eq_true rfl)⟩ ⟨(Nat.le_of_ble_eq_true rfl), (Nat.le_of_ble_eq_true rfl)⟩ rfl rfl dX8_appendRange_45 rfl ?_
              refine g_if_eq (t := 74) (q := 51) ⟨by omega, by omega⟩ dX8_appendRange_48 rfl rfl (fun c48 => ?_) (fun c48 => ?_)
              · omega
              · have mu0 : 0 ≤ step * (n - 1) := Int.mul_nonneg (by omega) (by omega)
                have mu1 : step * (n - 1) ≤ 511 * 63 := Int.mul_le_mul (by omega) (by omega) (by omega) (by omega)
                have b4 : ¬ first + step * (n - 1) ≤ 511 := fun z => hx ⟨e1, e2, e3, z⟩
                refine g_iload_n (q := 52) rfl rfl dX8_appendRange_51 rfl ?_
                refine g_iload_n (q := 53) rfl rfl dX8_appendRange_52 rfl ?_
                refine g_iload (q := 55) rfl dX8_appendRange_53 rfl ?_
                refine g_iconst (q := 56) dX8_appendRange_55 rfl ?_
                refine g_isub (q := 57) dX8_appendRange_56 rfl ?_
                refine g_imul (q := 58) dX8_appendRange_57 rfl ?_
                refine g_iadd (q := 59) dX8_appendRange_58 rfl ?_
                refine g_sipush (q := 62) (by decide) dX8_appendRange_59 rfl ?_
                refine g_icmp_gt (t := 74) (q := 65) ⟨by omega, by omega⟩ ⟨by omega, by omega⟩ dX8_appendRange_62 rfl rfl (fun c62 => ?_) (fun c62 => ?_)
                · refine g_aload_n (q := 75) rfl rfl dX8_appendRange_74 rfl ?_
                  refine g_iconst (q := 76) dX8_appendRange_75 rfl ?_
                  refine g_Vw (q := 79) (d' := 0) (i := 90) (av := [.int (iI (2))]) (st := []) kvX8_64 (t_X8_fails l hh1 0 S sv hM0 2) (by decide) fc2 rfl (Nat.le_of_ble_eq_true rfl) ⟨(Nat.le_of_ble_eq_true rfl), (Nat.le_of_ble_eq_true rfl)⟩ ⟨(Nat.le_of_ble_eq_true rfl), (Nat.le_of_ble_eq_true rfl)⟩ rfl rfl dX8_appendRange_76 rfl (fun v hz hp => ?_)
                  obtain ⟨rfl, p1, p2⟩ := hp
                  exact g_ireturn (fun z => NN_f z) (Nat.le_of_ble_eq_true rfl) (Nat.le_of_ble_eq_true rfl) dX8_appendRange_79 rfl (wP_in ⟨rfl, p1, fun j hj => (p2 j (by omega)).trans (fr0 j (by omega))⟩)
                · omega
            · refine g_iload (q := 42) rfl dX8_appendRange_40 rfl ?_
              refine g_iconst (q := 43) dX8_appendRange_42 rfl ?_
              refine g_bipush (q := 45) (by decide) dX8_appendRange_43 rfl ?_
              refine g_Sr (q := 48) (d' := 0) (av := [.int (iI (n)), .int (iI (1)), .int (iI (64))]) (st := []) (v := .int (iI (0))) ksX8_45 (t_X8_in0 l hh1 (n) (1) (64) hn ⟨by omega, by omega⟩ ⟨by omega, by omega⟩ (by omega)) rfl (Nat.le_of_ble_eq_true rfl) ⟨(Nat.le_of_ble_eq_true rfl), (Nat.le_of_ble_eq_true rfl)⟩ ⟨(Nat.le_of_ble_eq_true rfl), (Nat.le_of_ble_eq_true rfl)⟩ rfl rfl dX8_appendRange_45 rfl ?_
              refine g_if_eq (t := 74) (q := 51) ⟨by omega, by omega⟩ dX8_appendRange_48 rfl rfl (fun c48 => ?_) (fun c48 => ?_)
              · refine g_aload_n (q := 75) rfl rfl dX8_appendRange_74 rfl ?_
                refine g_iconst (q := 76) dX8_appendRange_75 rfl ?_
                refine g_Vw (q := 79) (d' := 0) (i := 90) (av := [.int (iI (2))]) (st := []) kvX8_64 (t_X8_fails l hh1 0 S sv hM0 2) (by decide) fc2 rfl (Nat.le_of_ble_eq_true rfl) ⟨(Nat.le_of_ble_eq_true rfl), (Nat.le_of_ble_eq_true rfl)⟩ ⟨(Nat.le_of_ble_eq_true rfl), (Nat.le_of_ble_eq_true rfl)⟩ rfl rfl dX8_appendRange_76 rfl (fun v hz hp => ?_)
                obtain ⟨rfl, p1, p2⟩ := hp
                exact g_ireturn (fun z => NN_f z) (Nat.le_of_ble_eq_true rfl) (Nat.le_of_ble_eq_true rfl) dX8_appendRange_79 rfl (wP_in ⟨rfl, p1, fun j hj => (p2 j (by omega)).trans (fr0 j (by omega))⟩)
              · omega
        · refine g_iload_n (q := 30) rfl rfl dX8_appendRange_29 rfl ?_
          refine g_iconst (q := 31) dX8_appendRange_30 rfl ?_
          refine g_sipush (q := 34) (by decide) dX8_appendRange_31 rfl ?_
          refine g_Sr (q := 37) (d' := 0) (av := [.int (iI (step)), .int (iI (1)), .int (iI (511))]) (st := []) (v := .int (iI (0))) ksX8_45 (t_X8_in0 l hh1 (step) (1) (511) hs ⟨by omega, by omega⟩ ⟨by omega, by omega⟩ (by omega)) rfl (Nat.le_of_ble_eq_true rfl) ⟨(Nat.le_of_ble_eq_true rfl), (Nat.le_of_ble_eq_true rfl)⟩ ⟨(Nat.le_of_ble_eq_true rfl), (Nat.le_of_ble_eq_true rfl)⟩ rfl rfl dX8_appendRange_34 rfl ?_
          refine g_if_eq (t := 74) (q := 40) ⟨by omega, by omega⟩ dX8_appendRange_37 rfl rfl (fun c37 => ?_) (fun c37 => ?_)
          · refine g_aload_n (q := 75) rfl rfl dX8_appendRange_74 rfl ?_
            refine g_iconst (q := 76) dX8_appendRange_75 rfl ?_
            refine g_Vw (q := 79) (d' := 0) (i := 90) (av := [.int (iI (2))]) (st := []) kvX8_64 (t_X8_fails l hh1 0 S sv hM0 2) (by decide) fc2 rfl (Nat.le_of_ble_eq_true rfl) ⟨(Nat.le_of_ble_eq_true rfl), (Nat.le_of_ble_eq_true rfl)⟩ ⟨(Nat.le_of_ble_eq_true rfl), (Nat.le_of_ble_eq_true rfl)⟩ rfl rfl dX8_appendRange_76 rfl (fun v hz hp => ?_)
            obtain ⟨rfl, p1, p2⟩ := hp
            exact g_ireturn (fun z => NN_f z) (Nat.le_of_ble_eq_true rfl) (Nat.le_of_ble_eq_true rfl) dX8_appendRange_79 rfl (wP_in ⟨rfl, p1, fun j hj => (p2 j (by omega)).trans (fr0 j (by omega))⟩)
          · omega
    · refine g_iload_n (q := 19) rfl rfl dX8_appendRange_18 rfl ?_
      refine g_iconst (q := 20) dX8_appendRange_19 rfl ?_
      refine g_sipush (q := 23) (by decide) dX8_appendRange_20 rfl ?_
      refine g_Sr (q := 26) (d' := 0) (av := [.int (iI (first)), .int (iI (0)), .int (iI (511))]) (st := []) (v := .int (iI (0))) ksX8_45 (t_X8_in0 l hh1 (first) (0) (511) hf ⟨by omega, by omega⟩ ⟨by omega, by omega⟩ (by omega)) rfl (Nat.le_of_ble_eq_true rfl) ⟨(Nat.le_of_ble_eq_true rfl), (Nat.le_of_ble_eq_true rfl)⟩ ⟨(Nat.le_of_ble_eq_true rfl), (Nat.le_of_ble_eq_true rfl)⟩ rfl rfl dX8_appendRange_23 rfl ?_
      refine g_if_eq (t := 74) (q := 29) ⟨by omega, by omega⟩ dX8_appendRange_26 rfl rfl (fun c26 => ?_) (fun c26 => ?_)
      · refine g_aload_n (q := 75) rfl rfl dX8_appendRange_74 rfl ?_
        refine g_iconst (q := 76) dX8_appendRange_75 rfl ?_
        refine g_Vw (q := 79) (d' := 0) (i := 90) (av := [.int (iI (2))]) (st := []) kvX8_64 (t_X8_fails l hh1 0 S sv hM0 2) (by decide) fc2 rfl (Nat.le_of_ble_eq_true rfl) ⟨(Nat.le_of_ble_eq_true rfl), (Nat.le_of_ble_eq_true rfl)⟩ ⟨(Nat.le_of_ble_eq_true rfl), (Nat.le_of_ble_eq_true rfl)⟩ rfl rfl dX8_appendRange_76 rfl (fun v hz hp => ?_)
        obtain ⟨rfl, p1, p2⟩ := hp
        exact g_ireturn (fun z => NN_f z) (Nat.le_of_ble_eq_true rfl) (Nat.le_of_ble_eq_true rfl) dX8_appendRange_79 rfl (wP_in ⟨rfl, p1, fun j hj => (p2 j (by omega)).trans (fr0 j (by omega))⟩)
      · omega
  · omega
set_option maxRecDepth 4000 in
theorem f3_X8_appendRange (l : Launch) (h : EHp) (th : Int) (S : ASt) (sv : List ASt) (hM : MRep h th S sv) (i : Nat) (hi : i < 4) (first step n : Int) (b1 : 0 ≤ first ∧ first ≤ 511) (b2 : 1 ≤ step ∧ step ≤ 511) (b3 : 1 ≤ n ∧ n ≤ 64) (b4 : first + step * (n - 1) ≤ 511) (b5 : ¬ dA (S.1 i).1 (S.1 i).2 ((S.1 i).1 - 1) < first) : CT l mX8_appendRange 2 0 0 [.ref (90), .int (iI (i)), .int (iI (first)), .int (iI (step)), .int (iI (n))] NN h (wP (fun v h' => v = .int (iI 0) ∧ MRep h' 2 S sv ∧ FrM h h')) := by
  obtain ⟨w, pst, bg, mn, lz, hA, ⟨m1, m2, m3, m4, m5⟩, ⟨⟨cs, s1⟩, ⟨ct, s2⟩, ⟨nx, s3⟩, ⟨fd, s4⟩, ⟨od, s5⟩⟩, hW, hP, hY⟩ := id hM
  have mu0 : 0 ≤ step * (n - 1) := Int.mul_nonneg (by omega) (by omega)
  have mu1 : step * (n - 1) ≤ 511 * 63 := Int.mul_le_mul (by omega) (by omega) (by omega) (by omega)
  refine CT.of (by decide) (Nat.le_of_ble_eq_true rfl) ?_
  refine g_al (al2 := [some (.ref (90)), some (.int (iI (i))), some (.int (iI (first))), some (.int (iI (step))), some (.int (iI (n))), none]) rfl ?_
  refine g_aload_n (q := 1) rfl rfl dX8_appendRange_0 rfl ?_
  refine g_iconst (q := 2) dX8_appendRange_1 rfl ?_
  refine g_put (q := 5) fX8_41 (by decide) hA (Nat.le_of_ble_eq_true rfl) (fun _ _ => rfl) (fun _ _ => rfl) dX8_appendRange_2 rfl ?_
  refine hp_in (fun hh1 ehh1 => ?_)
  have fc2 : hh1 90 = cO 7 [.int (iI (0)), .ref (91), .ref (92), .int (iI (sv.length)), .ref (93), .ref (94), .ref (95), .ref (96), .ref (97), .ref (98), .ref (99), .ref (100)] := by rw [ehh1]; exact ueh_s
  have fc3 : hh1 91 = cI 272 w := by rw [ehh1, ueh_n (by decide)]; exact m1
  refine g_iload_n (q := 6) rfl rfl dX8_appendRange_5 rfl ?_
  have hM0 : MRep hh1 0 S sv := hM.thr fc2 (fun j hj => by rw [ehh1, ueh_n hj])
  have fr0 : ∀ j, j ≠ 90 → hh1 j = h j := fun j hj => by rw [ehh1, ueh_n hj]
  refine g_Sr (q := 9) (d' := 1) (av := [.int (iI (i))]) (st := []) (v := .int (iI (1))) ksX8_60 (t_X8_isList1 l hh1 i (by omega) (by omega)) rfl (Nat.le_of_ble_eq_true rfl) ⟨(Nat.le_of_ble_eq_true rfl), (Nat.le_of_ble_eq_true rfl)⟩ ⟨(Nat.le_of_ble_eq_true rfl), (Nat.le_of_ble_eq_true rfl)⟩ rfl rfl dX8_appendRange_6 rfl ?_
  refine g_if_ne (t := 18) (q := 12) ⟨by omega, by omega⟩ dX8_appendRange_9 rfl rfl (fun c9 => ?_) (fun c9 => ?_)
  · refine g_iload_n (q := 19) rfl rfl dX8_appendRange_18 rfl ?_
    refine g_iconst (q := 20) dX8_appendRange_19 rfl ?_
    refine g_sipush (q := 23) (by decide) dX8_appendRange_20 rfl ?_
    refine g_Sr (q := 26) (d' := 0) (av := [.int (iI (first)), .int (iI (0)), .int (iI (511))]) (st := []) (v := .int (iI (1))) ksX8_45 (t_X8_in1 l hh1 (first) (0) (511) ⟨by omega, by omega⟩ ⟨by omega, by omega⟩ ⟨by omega, by omega⟩ (by omega) (by omega)) rfl (Nat.le_of_ble_eq_true rfl) ⟨(Nat.le_of_ble_eq_true rfl), (Nat.le_of_ble_eq_true rfl)⟩ ⟨(Nat.le_of_ble_eq_true rfl), (Nat.le_of_ble_eq_true rfl)⟩ rfl rfl dX8_appendRange_23 rfl ?_
    refine g_if_eq (t := 74) (q := 29) ⟨by omega, by omega⟩ dX8_appendRange_26 rfl rfl (fun c26 => ?_) (fun c26 => ?_)
    · omega
    · refine g_iload_n (q := 30) rfl rfl dX8_appendRange_29 rfl ?_
      refine g_iconst (q := 31) dX8_appendRange_30 rfl ?_
      refine g_sipush (q := 34) (by decide) dX8_appendRange_31 rfl ?_
      refine g_Sr (q := 37) (d' := 0) (av := [.int (iI (step)), .int (iI (1)), .int (iI (511))]) (st := []) (v := .int (iI (1))) ksX8_45 (t_X8_in1 l hh1 (step) (1) (511) ⟨by omega, by omega⟩ ⟨by omega, by omega⟩ ⟨by omega, by omega⟩ (by omega) (by omega)) rfl (Nat.le_of_ble_eq_true rfl) ⟨(Nat.le_of_ble_eq_true rfl), (Nat.le_of_ble_eq_true rfl)⟩ ⟨(Nat.le_of_ble_eq_true rfl), (Nat.le_of_ble_eq_true rfl)⟩ rfl rfl dX8_appendRange_34 rfl ?_
      refine g_if_eq (t := 74) (q := 40) ⟨by omega, by omega⟩ dX8_appendRange_37 rfl rfl (fun c37 => ?_) (fun c37 => ?_)
      · omega
      · refine g_iload (q := 42) rfl dX8_appendRange_40 rfl ?_
        refine g_iconst (q := 43) dX8_appendRange_42 rfl ?_
        refine g_bipush (q := 45) (by decide) dX8_appendRange_43 rfl ?_
        refine g_Sr (q := 48) (d' := 0) (av := [.int (iI (n)), .int (iI (1)), .int (iI (64))]) (st := []) (v := .int (iI (1))) ksX8_45 (t_X8_in1 l hh1 (n) (1) (64) ⟨by omega, by omega⟩ ⟨by omega, by omega⟩ ⟨by omega, by omega⟩ (by omega) (by omega)) rfl (Nat.le_of_ble_eq_true rfl) ⟨(Nat.le_of_ble_eq_true rfl), (Nat.le_of_ble_eq_true rfl)⟩ ⟨(Nat.le_of_ble_eq_true rfl), (Nat.le_of_ble_eq_true rfl)⟩ rfl rfl dX8_appendRange_45 rfl ?_
        refine g_if_eq (t := 74) (q := 51) ⟨by omega, by omega⟩ dX8_appendRange_48 rfl rfl (fun c48 => ?_) (fun c48 => ?_)
        · omega
        · refine g_iload_n (q := 52) rfl rfl dX8_appendRange_51 rfl ?_
          refine g_iload_n (q := 53) rfl rfl dX8_appendRange_52 rfl ?_
          refine g_iload (q := 55) rfl dX8_appendRange_53 rfl ?_
          refine g_iconst (q := 56) dX8_appendRange_55 rfl ?_
          refine g_isub (q := 57) dX8_appendRange_56 rfl ?_
          refine g_imul (q := 58) dX8_appendRange_57 rfl ?_
          refine g_iadd (q := 59) dX8_appendRange_58 rfl ?_
          refine g_sipush (q := 62) (by decide) dX8_appendRange_59 rfl ?_
          refine g_icmp_gt (t := 74) (q := 65) ⟨by omega, by omega⟩ ⟨by omega, by omega⟩ dX8_appendRange_62 rfl rfl (fun c62 => ?_) (fun c62 => ?_)
          · omega
          · refine g_aload_n (q := 66) rfl rfl dX8_appendRange_65 rfl ?_
            refine g_iload_n (q := 67) rfl rfl dX8_appendRange_66 rfl ?_
            refine g_iload_n (q := 68) rfl rfl dX8_appendRange_67 rfl ?_
            refine g_Vr (q := 71) (d' := 1) (i := 90) (av := [.int (iI (i)), .int (iI (first))]) (st := []) (v := .int (iI (0))) kvX8_68 (t_X8_isBehind0 l hh1 i (S.1 i).1 (S.1 i).2 (hM0.doc hi) first (by omega) (by omega) b5) (by decide) fc2 rfl (Nat.le_of_ble_eq_true rfl) ⟨(Nat.le_of_ble_eq_true rfl), (Nat.le_of_ble_eq_true rfl)⟩ ⟨(Nat.le_of_ble_eq_true rfl), (Nat.le_of_ble_eq_true rfl)⟩ rfl rfl dX8_appendRange_68 rfl ?_
            refine g_if_ne (t := 80) (q := 74) ⟨by omega, by omega⟩ dX8_appendRange_71 rfl rfl (fun c71 => ?_) (fun c71 => ?_)
            · omega
            · refine g_aload_n (q := 75) rfl rfl dX8_appendRange_74 rfl ?_
              refine g_iconst (q := 76) dX8_appendRange_75 rfl ?_
              refine g_Vw (q := 79) (d' := 0) (i := 90) (av := [.int (iI (2))]) (st := []) kvX8_64 (t_X8_fails l hh1 0 S sv hM0 2) (by decide) fc2 rfl (Nat.le_of_ble_eq_true rfl) ⟨(Nat.le_of_ble_eq_true rfl), (Nat.le_of_ble_eq_true rfl)⟩ ⟨(Nat.le_of_ble_eq_true rfl), (Nat.le_of_ble_eq_true rfl)⟩ rfl rfl dX8_appendRange_76 rfl (fun v hz hp => ?_)
              obtain ⟨rfl, p1, p2⟩ := hp
              exact g_ireturn (fun z => NN_f z) (Nat.le_of_ble_eq_true rfl) (Nat.le_of_ble_eq_true rfl) dX8_appendRange_79 rfl (wP_in ⟨rfl, p1, fun j hj => (p2 j (by omega)).trans (fr0 j (by omega))⟩)
  · omega
set_option maxRecDepth 4000 in
theorem f4_X8_appendRange (l : Launch) (h : EHp) (th : Int) (S : ASt) (sv : List ASt) (hM : MRep h th S sv) (i : Nat) (hi : i < 4) (first step n : Int) (b1 : 0 ≤ first ∧ first ≤ 511) (b2 : 1 ≤ step ∧ step ≤ 511) (b3 : 1 ≤ n ∧ n ≤ 64) (b4 : first + step * (n - 1) ≤ 511) (b5 : dA (S.1 i).1 (S.1 i).2 ((S.1 i).1 - 1) < first) (b6 : 64 < (S.1 i).1 + n) : CT l mX8_appendRange 2 0 0 [.ref (90), .int (iI (i)), .int (iI (first)), .int (iI (step)), .int (iI (n))] NN h (wP (fun v h' => v = .int (iI 0) ∧ MRep h' 3 S sv ∧ FrM h h')) := by
  obtain ⟨w, pst, bg, mn, lz, hA, ⟨m1, m2, m3, m4, m5⟩, ⟨⟨cs, s1⟩, ⟨ct, s2⟩, ⟨nx, s3⟩, ⟨fd, s4⟩, ⟨od, s5⟩⟩, hW, hP, hY⟩ := id hM
  obtain ⟨x1, x2, x3⟩ := hW.1 i hi
  obtain ⟨o1, o2, o3, o4⟩ := id x2
  have mu0 : 0 ≤ step * (n - 1) := Int.mul_nonneg (by omega) (by omega)
  have mu1 : step * (n - 1) ≤ 511 * 63 := Int.mul_le_mul (by omega) (by omega) (by omega) (by omega)
  refine CT.of (by decide) (Nat.le_of_ble_eq_true rfl) ?_
  refine g_al (al2 := [some (.ref (90)), some (.int (iI (i))), some (.int (iI (first))), some (.int (iI (step))), some (.int (iI (n))), none]) rfl ?_
  refine g_aload_n (q := 1) rfl rfl dX8_appendRange_0 rfl ?_
  refine g_iconst (q := 2) dX8_appendRange_1 rfl ?_
  refine g_put (q := 5) fX8_41 (by decide) hA (Nat.le_of_ble_eq_true rfl) (fun _ _ => rfl) (fun _ _ => rfl) dX8_appendRange_2 rfl ?_
  refine hp_in (fun hh1 ehh1 => ?_)
  have fc2 : hh1 90 = cO 7 [.int (iI (0)), .ref (91), .ref (92), .int (iI (sv.length)), .ref (93), .ref (94), .ref (95), .ref (96), .ref (97), .ref (98), .ref (99), .ref (100)] := by rw [ehh1]; exact ueh_s
  have fc3 : hh1 91 = cI 272 w := by rw [ehh1, ueh_n (by decide)]; exact m1
  refine g_iload_n (q := 6) rfl rfl dX8_appendRange_5 rfl ?_
  have hM0 : MRep hh1 0 S sv := hM.thr fc2 (fun j hj => by rw [ehh1, ueh_n hj])
  have fr0 : ∀ j, j ≠ 90 → hh1 j = h j := fun j hj => by rw [ehh1, ueh_n hj]
  refine g_Sr (q := 9) (d' := 1) (av := [.int (iI (i))]) (st := []) (v := .int (iI (1))) ksX8_60 (t_X8_isList1 l hh1 i (by omega) (by omega)) rfl (Nat.le_of_ble_eq_true rfl) ⟨(Nat.le_of_ble_eq_true rfl), (Nat.le_of_ble_eq_true rfl)⟩ ⟨(Nat.le_of_ble_eq_true rfl), (Nat.le_of_ble_eq_true rfl)⟩ rfl rfl dX8_appendRange_6 rfl ?_
  refine g_if_ne (t := 18) (q := 12) ⟨by omega, by omega⟩ dX8_appendRange_9 rfl rfl (fun c9 => ?_) (fun c9 => ?_)
  · refine g_iload_n (q := 19) rfl rfl dX8_appendRange_18 rfl ?_
    refine g_iconst (q := 20) dX8_appendRange_19 rfl ?_
    refine g_sipush (q := 23) (by decide) dX8_appendRange_20 rfl ?_
    refine g_Sr (q := 26) (d' := 0) (av := [.int (iI (first)), .int (iI (0)), .int (iI (511))]) (st := []) (v := .int (iI (1))) ksX8_45 (t_X8_in1 l hh1 (first) (0) (511) ⟨by omega, by omega⟩ ⟨by omega, by omega⟩ ⟨by omega, by omega⟩ (by omega) (by omega)) rfl (Nat.le_of_ble_eq_true rfl) ⟨(Nat.le_of_ble_eq_true rfl), (Nat.le_of_ble_eq_true rfl)⟩ ⟨(Nat.le_of_ble_eq_true rfl), (Nat.le_of_ble_eq_true rfl)⟩ rfl rfl dX8_appendRange_23 rfl ?_
    refine g_if_eq (t := 74) (q := 29) ⟨by omega, by omega⟩ dX8_appendRange_26 rfl rfl (fun c26 => ?_) (fun c26 => ?_)
    · omega
    · refine g_iload_n (q := 30) rfl rfl dX8_appendRange_29 rfl ?_
      refine g_iconst (q := 31) dX8_appendRange_30 rfl ?_
      refine g_sipush (q := 34) (by decide) dX8_appendRange_31 rfl ?_
      refine g_Sr (q := 37) (d' := 0) (av := [.int (iI (step)), .int (iI (1)), .int (iI (511))]) (st := []) (v := .int (iI (1))) ksX8_45 (t_X8_in1 l hh1 (step) (1) (511) ⟨by omega, by omega⟩ ⟨by omega, by omega⟩ ⟨by omega, by omega⟩ (by omega) (by omega)) rfl (Nat.le_of_ble_eq_true rfl) ⟨(Nat.le_of_ble_eq_true rfl), (Nat.le_of_ble_eq_true rfl)⟩ ⟨(Nat.le_of_ble_eq_true rfl), (Nat.le_of_ble_eq_true rfl)⟩ rfl rfl dX8_appendRange_34 rfl ?_
      refine g_if_eq (t := 74) (q := 40) ⟨by omega, by omega⟩ dX8_appendRange_37 rfl rfl (fun c37 => ?_) (fun c37 => ?_)
      · omega
      · refine g_iload (q := 42) rfl dX8_appendRange_40 rfl ?_
        refine g_iconst (q := 43) dX8_appendRange_42 rfl ?_
        refine g_bipush (q := 45) (by decide) dX8_appendRange_43 rfl ?_
        refine g_Sr (q := 48) (d' := 0) (av := [.int (iI (n)), .int (iI (1)), .int (iI (64))]) (st := []) (v := .int (iI (1))) ksX8_45 (t_X8_in1 l hh1 (n) (1) (64) ⟨by omega, by omega⟩ ⟨by omega, by omega⟩ ⟨by omega, by omega⟩ (by omega) (by omega)) rfl (Nat.le_of_ble_eq_true rfl) ⟨(Nat.le_of_ble_eq_true rfl), (Nat.le_of_ble_eq_true rfl)⟩ ⟨(Nat.le_of_ble_eq_true rfl), (Nat.le_of_ble_eq_true rfl)⟩ rfl rfl dX8_appendRange_45 rfl ?_
        refine g_if_eq (t := 74) (q := 51) ⟨by omega, by omega⟩ dX8_appendRange_48 rfl rfl (fun c48 => ?_) (fun c48 => ?_)
        · omega
        · refine g_iload_n (q := 52) rfl rfl dX8_appendRange_51 rfl ?_
          refine g_iload_n (q := 53) rfl rfl dX8_appendRange_52 rfl ?_
          refine g_iload (q := 55) rfl dX8_appendRange_53 rfl ?_
          refine g_iconst (q := 56) dX8_appendRange_55 rfl ?_
          refine g_isub (q := 57) dX8_appendRange_56 rfl ?_
          refine g_imul (q := 58) dX8_appendRange_57 rfl ?_
          refine g_iadd (q := 59) dX8_appendRange_58 rfl ?_
          refine g_sipush (q := 62) (by decide) dX8_appendRange_59 rfl ?_
          refine g_icmp_gt (t := 74) (q := 65) ⟨by omega, by omega⟩ ⟨by omega, by omega⟩ dX8_appendRange_62 rfl rfl (fun c62 => ?_) (fun c62 => ?_)
          · omega
          · refine g_aload_n (q := 66) rfl rfl dX8_appendRange_65 rfl ?_
            refine g_iload_n (q := 67) rfl rfl dX8_appendRange_66 rfl ?_
            refine g_iload_n (q := 68) rfl rfl dX8_appendRange_67 rfl ?_
            refine g_Vr (q := 71) (d' := 1) (i := 90) (av := [.int (iI (i)), .int (iI (first))]) (st := []) (v := .int (iI (1))) kvX8_68 (t_X8_isBehind1 l hh1 i (S.1 i).1 (S.1 i).2 (hM0.doc hi) first (by omega) (by omega) b5) (by decide) fc2 rfl (Nat.le_of_ble_eq_true rfl) ⟨(Nat.le_of_ble_eq_true rfl), (Nat.le_of_ble_eq_true rfl)⟩ ⟨(Nat.le_of_ble_eq_true rfl), (Nat.le_of_ble_eq_true rfl)⟩ rfl rfl dX8_appendRange_68 rfl ?_
            refine g_if_ne (t := 80) (q := 74) ⟨by omega, by omega⟩ dX8_appendRange_71 rfl rfl (fun c71 => ?_) (fun c71 => ?_)
            · refine g_aload_n (q := 81) rfl rfl dX8_appendRange_80 rfl ?_
              refine g_get (q := 84) fX8_7r (by decide) fc2 rfl dX8_appendRange_81 rfl ?_
              refine g_iload_n (q := 85) rfl rfl dX8_appendRange_84 rfl ?_
              refine g_iaload (q := 86) (by decide) fc3 (by omega) (by omega) (by decide) dX8_appendRange_85 rfl ?_
              rw [x1]
              refine g_iload (q := 88) rfl dX8_appendRange_86 rfl ?_
              refine g_iadd (q := 89) dX8_appendRange_88 rfl ?_
              refine g_bipush (q := 91) (by decide) dX8_appendRange_89 rfl ?_
              refine g_icmp_le (t := 100) (q := 94) ⟨by omega, by omega⟩ ⟨by omega, by omega⟩ dX8_appendRange_91 rfl rfl (fun c91 => ?_) (fun c91 => ?_)
              · omega
              · refine g_aload_n (q := 95) rfl rfl dX8_appendRange_94 rfl ?_
                refine g_iconst (q := 96) dX8_appendRange_95 rfl ?_
                refine g_Vw (q := 99) (d' := 0) (i := 90) (av := [.int (iI (3))]) (st := []) kvX8_64 (t_X8_fails l hh1 0 S sv hM0 3) (by decide) fc2 rfl (Nat.le_of_ble_eq_true rfl) ⟨(Nat.le_of_ble_eq_true rfl), (Nat.le_of_ble_eq_true rfl)⟩ ⟨(Nat.le_of_ble_eq_true rfl), (Nat.le_of_ble_eq_true rfl)⟩ rfl rfl dX8_appendRange_96 rfl (fun v hz hp => ?_)
                obtain ⟨rfl, p1, p2⟩ := hp
                exact g_ireturn (fun z => NN_f z) (Nat.le_of_ble_eq_true rfl) (Nat.le_of_ble_eq_true rfl) dX8_appendRange_99 rfl (wP_in ⟨rfl, p1, fun j hj => (p2 j (by omega)).trans (fr0 j (by omega))⟩)
            · omega
  · omega
set_option maxRecDepth 4000 in
theorem t_X8_clear (l : Launch) (h : EHp) (th : Int) (S : ASt) (sv : List ASt) (hM : MRep h th S sv) (i : Nat) (hi : i < 4) : CT l mX8_clear 2 0 0 [.ref (90), .int (iI (i))] NN h (wP (fun v h' => v = .int (iI ((S.1 i).1)) ∧ MRep h' 0 (wrL S i 0 (fun _ => 0)) (push4 S sv) ∧ FrM h h')) := by
  obtain ⟨w, pst, bg, mn, lz, hA, ⟨m1, m2, m3, m4, m5⟩, ⟨⟨cs, s1⟩, ⟨ct, s2⟩, ⟨nx, s3⟩, ⟨fd, s4⟩, ⟨od, s5⟩⟩, hW, hP, hY⟩ := id hM
  obtain ⟨x1, x2, x3⟩ := hW.1 i hi
  obtain ⟨o1, o2, o3, o4⟩ := id x2
  refine CT.of (by decide) (Nat.le_of_ble_eq_true rfl) ?_
  refine g_al (al2 := [some (.ref (90)), some (.int (iI (i))), none]) rfl ?_
  refine g_aload_n (q := 1) rfl rfl dX8_clear_0 rfl ?_
  refine g_iconst (q := 2) dX8_clear_1 rfl ?_
  refine g_put (q := 5) fX8_41 (by decide) hA (Nat.le_of_ble_eq_true rfl) (fun _ _ => rfl) (fun _ _ => rfl) dX8_clear_2 rfl ?_
  refine hp_in (fun hh1 ehh1 => ?_)
  have fc2 : hh1 90 = cO 7 [.int (iI (0)), .ref (91), .ref (92), .int (iI (sv.length)), .ref (93), .ref (94), .ref (95), .ref (96), .ref (97), .ref (98), .ref (99), .ref (100)] := by rw [ehh1]; exact ueh_s
  have fc3 : hh1 91 = cI 272 w := by rw [ehh1, ueh_n (by decide)]; exact m1
  refine g_iload_n (q := 6) rfl rfl dX8_clear_5 rfl ?_
  have hM0 : MRep hh1 0 S sv := hM.thr fc2 (fun j hj => by rw [ehh1, ueh_n hj])
  have fr0 : ∀ j, j ≠ 90 → hh1 j = h j := fun j hj => by rw [ehh1, ueh_n hj]
  refine g_Sr (q := 9) (d' := 1) (av := [.int (iI (i))]) (st := []) (v := .int (iI (1))) ksX8_60 (t_X8_isList1 l hh1 i (by omega) (by omega)) rfl (Nat.le_of_ble_eq_true rfl) ⟨(Nat.le_of_ble_eq_true rfl), (Nat.le_of_ble_eq_true rfl)⟩ ⟨(Nat.le_of_ble_eq_true rfl), (Nat.le_of_ble_eq_true rfl)⟩ rfl rfl dX8_clear_6 rfl ?_
  refine g_if_ne (t := 18) (q := 12) ⟨by omega, by omega⟩ dX8_clear_9 rfl rfl (fun c9 => ?_) (fun c9 => ?_)
  · refine g_aload_n (q := 19) rfl rfl dX8_clear_18 rfl ?_
    refine g_Vv (q := 22) (d' := 0) (i := 90) (av := []) (st := []) kvX8_72 (t_X8_save l hh1 0 S sv hM0) (by decide) fc2 rfl (Nat.le_of_ble_eq_true rfl) ⟨(Nat.le_of_ble_eq_true rfl), (Nat.le_of_ble_eq_true rfl)⟩ ⟨(Nat.le_of_ble_eq_true rfl), (Nat.le_of_ble_eq_true rfl)⟩ rfl rfl dX8_clear_19 rfl (fun h1 hp => ?_)
    obtain ⟨hM1, fr1⟩ := hp
    obtain ⟨w1, pst1, bg1, mn1, lz1, A1, ⟨B1, -⟩, -, W1, -⟩ := id hM1
    refine g_aload_n (q := 23) rfl rfl dX8_clear_22 rfl ?_
    refine g_iload_n (q := 24) rfl rfl dX8_clear_23 rfl ?_
    refine g_Vv (q := 27) (d' := 1) (i := 90) (av := [.int (iI (i))]) (st := []) kvX8_75 (t_X8_changes l h1 0 S (push4 S sv) hM1 i hi) (by decide) A1 rfl (Nat.le_of_ble_eq_true rfl) ⟨(Nat.le_of_ble_eq_true rfl), (Nat.le_of_ble_eq_true rfl)⟩ ⟨(Nat.le_of_ble_eq_true rfl), (Nat.le_of_ble_eq_true rfl)⟩ rfl rfl dX8_clear_24 rfl (fun h2 hp => ?_)
    obtain ⟨hM2, fr2⟩ := hp
    obtain ⟨w2, pst2, bg2, mn2, lz2, ⟨A2, ⟨B2, -⟩, -, W2, -⟩, -⟩ := id hM2
    have y1 : w2 i = (S.1 i).1 := (W2.1 i hi).1
    refine g_aload_n (q := 28) rfl rfl dX8_clear_27 rfl ?_
    refine g_get (q := 31) fX8_7r (by decide) A2 rfl dX8_clear_28 rfl ?_
    refine g_iload_n (q := 32) rfl rfl dX8_clear_31 rfl ?_
    refine g_iaload (q := 33) (by decide) B2 (by omega) (by omega) (by decide) dX8_clear_32 rfl ?_
    rw [y1]
    refine g_istore_n (q := 34) (al2 := [some (.ref (90)), some (.int (iI (i))), some (.int (iI ((S.1 i).1)))]) rfl (by decide) rfl rfl dX8_clear_33 rfl ?_
    refine g_aload_n (q := 35) rfl rfl dX8_clear_34 rfl ?_
    refine g_get (q := 38) fX8_7r (by decide) A2 rfl dX8_clear_35 rfl ?_
    refine g_iload_n (q := 39) rfl rfl dX8_clear_38 rfl ?_
    refine g_iconst (q := 40) dX8_clear_39 rfl ?_
    refine g_iastore (q := 41) (by decide) B2 (by omega) (by omega) (by decide) dX8_clear_40 rfl ?_
    refine hp_in (fun hh4 ehh4 => ?_)
    have fc5 : hh4 90 = cO 7 [.int (iI (0)), .ref (91), .ref (92), .int (iI ((push4 S sv).length)), .ref (93), .ref (94), .ref (95), .ref (96), .ref (97), .ref (98), .ref (99), .ref (100)] := by rw [ehh4, ueh_n (by decide)]; exact A2
    have fc6 : hh4 91 = cI 272 (ui w2 i 0) := by rw [ehh4]; exact ueh_s
    have hM3 : MRL hh4 0 (setL (chg S i) i 0 (fun _ => 0)) (push4 S sv) i := MRL.nil _ hi hM2 B2 fc6 (fun j hj => by rw [ehh4, ueh_n hj])
    have fr3 : ∀ j, j ≠ 91 → hh4 j = h2 j := fun j hj => by rw [ehh4, ueh_n hj]
    refine g_iload_n (q := 42) rfl rfl dX8_clear_41 rfl ?_
    exact g_ireturn (fun z => NN_f z) (Nat.le_of_ble_eq_true rfl) (Nat.le_of_ble_eq_true rfl) dX8_clear_42 rfl (wP_in ⟨rfl, hM3.rep, fun j hj => (fr3 j (by omega)).trans ((fr2 j (by omega) (by omega)).trans ((fr1 j (by omega) (by omega)).trans (fr0 j (by omega))))⟩)
  · omega
set_option maxRecDepth 4000 in
theorem f_X8_clear (l : Launch) (h : EHp) (th : Int) (S : ASt) (sv : List ASt) (hM : MRep h th S sv) (i : Int) (hi : IR i) (h0 : i < 0 ∨ 4 ≤ i) : CT l mX8_clear 2 0 0 [.ref (90), .int (iI (i))] NN h (wP (fun v h' => v = .int (iI 0) ∧ MRep h' 1 S sv ∧ FrM h h')) := by
  obtain ⟨w, pst, bg, mn, lz, hA, ⟨m1, m2, m3, m4, m5⟩, ⟨⟨cs, s1⟩, ⟨ct, s2⟩, ⟨nx, s3⟩, ⟨fd, s4⟩, ⟨od, s5⟩⟩, hW, hP, hY⟩ := id hM
  refine CT.of (by decide) (Nat.le_of_ble_eq_true rfl) ?_
  refine g_al (al2 := [some (.ref (90)), some (.int (iI (i))), none]) rfl ?_
  refine g_aload_n (q := 1) rfl rfl dX8_clear_0 rfl ?_
  refine g_iconst (q := 2) dX8_clear_1 rfl ?_
  refine g_put (q := 5) fX8_41 (by decide) hA (Nat.le_of_ble_eq_true rfl) (fun _ _ => rfl) (fun _ _ => rfl) dX8_clear_2 rfl ?_
  refine hp_in (fun hh1 ehh1 => ?_)
  have fc2 : hh1 90 = cO 7 [.int (iI (0)), .ref (91), .ref (92), .int (iI (sv.length)), .ref (93), .ref (94), .ref (95), .ref (96), .ref (97), .ref (98), .ref (99), .ref (100)] := by rw [ehh1]; exact ueh_s
  have fc3 : hh1 91 = cI 272 w := by rw [ehh1, ueh_n (by decide)]; exact m1
  refine g_iload_n (q := 6) rfl rfl dX8_clear_5 rfl ?_
  have hM0 : MRep hh1 0 S sv := hM.thr fc2 (fun j hj => by rw [ehh1, ueh_n hj])
  have fr0 : ∀ j, j ≠ 90 → hh1 j = h j := fun j hj => by rw [ehh1, ueh_n hj]
  refine g_Sr (q := 9) (d' := 1) (av := [.int (iI (i))]) (st := []) (v := .int (iI (0))) ksX8_60 (t_X8_isList0 l hh1 i hi (by omega)) rfl (Nat.le_of_ble_eq_true rfl) ⟨(Nat.le_of_ble_eq_true rfl), (Nat.le_of_ble_eq_true rfl)⟩ ⟨(Nat.le_of_ble_eq_true rfl), (Nat.le_of_ble_eq_true rfl)⟩ rfl rfl dX8_clear_6 rfl ?_
  refine g_if_ne (t := 18) (q := 12) ⟨by omega, by omega⟩ dX8_clear_9 rfl rfl (fun c9 => ?_) (fun c9 => ?_)
  · omega
  · refine g_aload_n (q := 13) rfl rfl dX8_clear_12 rfl ?_
    refine g_iconst (q := 14) dX8_clear_13 rfl ?_
    refine g_Vw (q := 17) (d' := 0) (i := 90) (av := [.int (iI (1))]) (st := []) kvX8_64 (t_X8_fails l hh1 0 S sv hM0 1) (by decide) fc2 rfl (Nat.le_of_ble_eq_true rfl) ⟨(Nat.le_of_ble_eq_true rfl), (Nat.le_of_ble_eq_true rfl)⟩ ⟨(Nat.le_of_ble_eq_true rfl), (Nat.le_of_ble_eq_true rfl)⟩ rfl rfl dX8_clear_14 rfl (fun v hz hp => ?_)
    obtain ⟨rfl, p1, p2⟩ := hp
    exact g_ireturn (fun z => NN_f z) (Nat.le_of_ble_eq_true rfl) (Nat.le_of_ble_eq_true rfl) dX8_clear_17 rfl (wP_in ⟨rfl, p1, fun j hj => (p2 j (by omega)).trans (fr0 j (by omega))⟩)
set_option maxRecDepth 4000 in
theorem t_X8_unite (l : Launch) (h : EHp) (th : Int) (S : ASt) (sv : List ASt) (hM : MRep h th S sv) (i j t : Nat) (hi : i < 4) (hj : j < 4) (ht : t < 4) (h64 : (uni S i j).1 ≤ 64) : CT l mX8_unite 3 0 0 [.ref (90), .int (iI (i)), .int (iI (j)), .int (iI (t))] NN h (wP (fun v h' => v = .int (iI ((uni S i j).1)) ∧ MRep h' 0 (wrL S t (uni S i j).1 (uni S i j).2) (push4 S sv) ∧ FrM h h')) := by
  obtain ⟨w, pst, bg, mn, lz, hA, ⟨m1, m2, m3, m4, m5⟩, ⟨⟨cs, s1⟩, ⟨ct, s2⟩, ⟨nx, s3⟩, ⟨fd, s4⟩, ⟨od, s5⟩⟩, hW, hP, hY⟩ := id hM
  obtain ⟨x1, x2, x3⟩ := hW.1 i hi
  obtain ⟨o1, o2, o3, o4⟩ := id x2
  have hj2 := (hW.1 j hj).2.1
  have hu := uni_128 x2 hj2
  have hO1 : LOk (uni S i j).1 (uni S i j).2 := en_LOk (by omega) h64
  refine CT.of (by decide) (Nat.le_of_ble_eq_true rfl) ?_
  refine g_al (al2 := [some (.ref (90)), some (.int (iI (i))), some (.int (iI (j))), some (.int (iI (t))), none, none]) rfl ?_
  refine g_aload_n (q := 1) rfl rfl dX8_unite_0 rfl ?_
  refine g_iconst (q := 2) dX8_unite_1 rfl ?_
  refine g_put (q := 5) fX8_41 (by decide) hA (Nat.le_of_ble_eq_true rfl) (fun _ _ => rfl) (fun _ _ => rfl) dX8_unite_2 rfl ?_
  refine hp_in (fun hh1 ehh1 => ?_)
  have fc2 : hh1 90 = cO 7 [.int (iI (0)), .ref (91), .ref (92), .int (iI (sv.length)), .ref (93), .ref (94), .ref (95), .ref (96), .ref (97), .ref (98), .ref (99), .ref (100)] := by rw [ehh1]; exact ueh_s
  have fc3 : hh1 91 = cI 272 w := by rw [ehh1, ueh_n (by decide)]; exact m1
  refine g_iload_n (q := 6) rfl rfl dX8_unite_5 rfl ?_
  have hM0 : MRep hh1 0 S sv := hM.thr fc2 (fun j hj => by rw [ehh1, ueh_n hj])
  have fr0 : ∀ j, j ≠ 90 → hh1 j = h j := fun j hj => by rw [ehh1, ueh_n hj]
  refine g_Sr (q := 9) (d' := 1) (av := [.int (iI (i))]) (st := []) (v := .int (iI (1))) ksX8_60 (t_X8_isList1 l hh1 i (by omega) (by omega)) rfl (Nat.le_of_ble_eq_true rfl) ⟨(Nat.le_of_ble_eq_true rfl), (Nat.le_of_ble_eq_true rfl)⟩ ⟨(Nat.le_of_ble_eq_true rfl), (Nat.le_of_ble_eq_true rfl)⟩ rfl rfl dX8_unite_6 rfl ?_
  refine g_if_eq (t := 26) (q := 12) ⟨by omega, by omega⟩ dX8_unite_9 rfl rfl (fun c9 => ?_) (fun c9 => ?_)
  · omega
  · refine g_iload_n (q := 13) rfl rfl dX8_unite_12 rfl ?_
    refine g_Sr (q := 16) (d' := 1) (av := [.int (iI (j))]) (st := []) (v := .int (iI (1))) ksX8_60 (t_X8_isList1 l hh1 j (by omega) (by omega)) rfl (Nat.le_of_ble_eq_true rfl) ⟨(Nat.le_of_ble_eq_true rfl), (Nat.le_of_ble_eq_true rfl)⟩ ⟨(Nat.le_of_ble_eq_true rfl), (Nat.le_of_ble_eq_true rfl)⟩ rfl rfl dX8_unite_13 rfl ?_
    refine g_if_eq (t := 26) (q := 19) ⟨by omega, by omega⟩ dX8_unite_16 rfl rfl (fun c16 => ?_) (fun c16 => ?_)
    · omega
    · refine g_iload_n (q := 20) rfl rfl dX8_unite_19 rfl ?_
      refine g_Sr (q := 23) (d' := 1) (av := [.int (iI (t))]) (st := []) (v := .int (iI (1))) ksX8_60 (t_X8_isList1 l hh1 t (by omega) (by omega)) rfl (Nat.le_of_ble_eq_true rfl) ⟨(Nat.le_of_ble_eq_true rfl), (Nat.le_of_ble_eq_true rfl)⟩ ⟨(Nat.le_of_ble_eq_true rfl), (Nat.le_of_ble_eq_true rfl)⟩ rfl rfl dX8_unite_20 rfl ?_
      refine g_if_ne (t := 32) (q := 26) ⟨by omega, by omega⟩ dX8_unite_23 rfl rfl (fun c23 => ?_) (fun c23 => ?_)
      · refine g_iconst (q := 33) dX8_unite_32 rfl ?_
        refine g_istore (q := 35) (al2 := [some (.ref (90)), some (.int (iI (i))), some (.int (iI (j))), some (.int (iI (t))), some (.int (iI (0))), none]) (by decide) rfl rfl dX8_unite_33 rfl ?_
        refine g_iconst (q := 36) dX8_unite_35 rfl ?_
        refine g_istore (q := 38) (al2 := [some (.ref (90)), some (.int (iI (i))), some (.int (iI (j))), some (.int (iI (t))), some (.int (iI (0))), some (.int (iI (0)))]) (by decide) rfl rfl dX8_unite_36 rfl ?_
        refine loopG (σ := Nat × Int × (Int → Int) × EHp) (P := fun zz => match zz with | (x, n, fd2, h2) => G l noX mX8_unite 3 0 0 (wP (fun v h' => v = .int (iI ((uni S i j).1)) ∧ MRep h' 0 (wrL S t (uni S i j).1 (uni S i j).2) (push4 S sv) ∧ FrM h h')) 0 0 38 [some (.ref (90)), some (.int (iI (i))), some (.int (iI (j))), some (.int (iI (t))), some (.int (iI (n))), some (.int (iI (x)))] [] NN h2) (I := fun zz => match zz with | (x, n, fd2, h2) => x ≤ 512 ∧ n = (en (uP S i j) x).1 ∧ Ag n fd2 (en (uP S i j) x).2 ∧ h2 99 = cI 128 fd2 ∧ ∀ q, q ≠ 99 → h2 q = hh1 q) (fun zz => match zz with | (x, n, fd2, h2) => 512 - x) ?_ (0, 0, fd, hh1) ⟨by omega, rfl, fun q a b => by omega, by rw [fr0 99 (by decide)]; exact s4, fun _ _ => rfl⟩
        rintro ⟨x, n, fd2, h2⟩ hI ih
        obtain ⟨y1, en1, ag1, hr, fr⟩ := hI
        have nr := en_ok (uP S i j) x
        have hu0 := hu x
        have hM1 : MRep h2 0 S sv := hM0.scr hr ((fr 100 (by decide)).trans ((fr0 100 (by decide)).trans s5)) (fun q hq _ => fr q hq)
        obtain ⟨w1, pst1, bg1, mn1, lz1, A1, ⟨B1, -⟩, -, W1, -⟩ := id hM1
        refine g_iload (q := 40) rfl dX8_unite_38 rfl ?_
        refine g_sipush (q := 43) (by decide) dX8_unite_40 rfl ?_
        refine g_icmp_gt (t := 84) (q := 46) ⟨by omega, by omega⟩ ⟨by omega, by omega⟩ dX8_unite_43 rfl rfl (fun c43 => ?_) (fun c43 => ?_)
        · have e512 : x = 512 := by omega
          subst e512
          have en2 : n = (uni S i j).1 := en1
          subst en2
          refine g_iload (q := 86) rfl dX8_unite_84 rfl ?_
          refine g_bipush (q := 88) (by decide) dX8_unite_86 rfl ?_
          refine g_icmp_le (t := 97) (q := 91) ⟨by omega, by omega⟩ ⟨by omega, by omega⟩ dX8_unite_88 rfl rfl (fun c88 => ?_) (fun c88 => ?_)
          · refine g_aload_n (q := 98) rfl rfl dX8_unite_97 rfl ?_
            refine g_Vv (q := 101) (d' := 0) (i := 90) (av := []) (st := []) kvX8_72 (t_X8_save l h2 0 S sv hM1) (by decide) A1 rfl (Nat.le_of_ble_eq_true rfl) ⟨(Nat.le_of_ble_eq_true rfl), (Nat.le_of_ble_eq_true rfl)⟩ ⟨(Nat.le_of_ble_eq_true rfl), (Nat.le_of_ble_eq_true rfl)⟩ rfl rfl dX8_unite_98 rfl (fun h3 hp => ?_)
            obtain ⟨hM3, fr3⟩ := hp
            obtain ⟨w3, pst3, bg3, mn3, lz3, A3, ⟨B3, -⟩, -, W3, -⟩ := id hM3
            refine g_aload_n (q := 102) rfl rfl dX8_unite_101 rfl ?_
            refine g_iload_n (q := 103) rfl rfl dX8_unite_102 rfl ?_
            refine g_iload (q := 105) rfl dX8_unite_103 rfl ?_
            refine g_Vw (q := 108) (d' := 2) (i := 90) (av := [.int (iI (t)), .int (iI ((uni S i j).1))]) (st := []) kvX8_151 (t_X8_writes l h3 0 S (push4 S sv) hM3 t ht (uni S i j).1 (uni S i j).2 fd2 ((fr3 99 (by decide) (by decide)).trans hr) ag1 hO1) (by decide) A3 rfl (Nat.le_of_ble_eq_true rfl) ⟨(Nat.le_of_ble_eq_true rfl), (Nat.le_of_ble_eq_true rfl)⟩ ⟨(Nat.le_of_ble_eq_true rfl), (Nat.le_of_ble_eq_true rfl)⟩ rfl rfl dX8_unite_105 rfl (fun v h9 hp => ?_)
            obtain ⟨rfl, hM9, fr9⟩ := hp
            exact g_ireturn (fun z => NN_f z) (Nat.le_of_ble_eq_true rfl) (Nat.le_of_ble_eq_true rfl) dX8_unite_108 rfl (wP_in ⟨rfl, hM9, fun j hj => (fr9 j hj).trans ((fr3 j (by omega) (by omega)).trans ((fr j (by omega)).trans (fr0 j (by omega))))⟩)
          · omega
        · have k66 : ∀ (hz : uP S i j x = true), G l noX mX8_unite 3 0 0 (wP (fun v h' => v = .int (iI ((uni S i j).1)) ∧ MRep h' 0 (wrL S t (uni S i j).1 (uni S i j).2) (push4 S sv) ∧ FrM h h')) 0 0 66 [some (.ref (90)), some (.int (iI (i))), some (.int (iI (j))), some (.int (iI (t))), some (.int (iI (n))), some (.int (iI (x)))] [] NN h2 := by
            intro hz
            have es := en_t hz
            have hu1 := hu (x + 1)
            rw [es] at hu1
            simp only [] at hu1
            refine g_aload_n (q := 67) rfl rfl dX8_unite_66 rfl ?_
            refine g_get (q := 70) fX8_35r (by decide) A1 rfl dX8_unite_67 rfl ?_
            refine g_iload (q := 72) rfl dX8_unite_70 rfl ?_
            refine g_iload (q := 74) rfl dX8_unite_72 rfl ?_
            refine g_iastore (q := 75) (by decide) hr (by omega) (by omega) (by decide) dX8_unite_74 rfl ?_
            refine hp_in (fun hh4 ehh4 => ?_)
            have fc5 : hh4 90 = cO 7 [.int (iI (0)), .ref (91), .ref (92), .int (iI (sv.length)), .ref (93), .ref (94), .ref (95), .ref (96), .ref (97), .ref (98), .ref (99), .ref (100)] := by rw [ehh4, ueh_n (by decide)]; exact A1
            have fc6 : hh4 91 = cI 272 w1 := by rw [ehh4, ueh_n (by decide)]; exact B1
            have fc7 : hh4 99 = cI 128 (ui fd2 n x) := by rw [ehh4]; exact ueh_s
            refine g_iinc (q := 78) (al2 := [some (.ref (90)), some (.int (iI (i))), some (.int (iI (j))), some (.int (iI (t))), some (.int (iI (n + 1))), some (.int (iI (x)))]) rfl (by decide) rfl rfl dX8_unite_75 rfl ?_
            refine g_iinc (q := 81) (al2 := [some (.ref (90)), some (.int (iI (i))), some (.int (iI (j))), some (.int (iI (t))), some (.int (iI (n + 1))), some (.int (iI (x + 1)))]) rfl (by decide) rfl rfl dX8_unite_78 rfl ?_
            refine g_goto (q := 38) dX8_unite_81 rfl ?_
            exact ih (x + 1, n + 1, ui fd2 n x, hh4) ⟨by show x + 1 ≤ 512; omega, by rw [es, en1], by rw [es, ← en1]; exact ag_ui ag1 _, fc7, fun q hq => by rw [ehh4, ueh_n hq]; exact fr q hq⟩ (by show 512 - (x + 1) < 512 - x; omega)
          obtain ⟨z1, e1, zr1, zi1⟩ := hs01 (S.1 i).1 (S.1 i).2 x
          obtain ⟨z2, e2, zr2, zi2⟩ := hs01 (S.1 j).1 (S.1 j).2 x
          refine g_aload_n (q := 47) rfl rfl dX8_unite_46 rfl ?_
          refine g_iload_n (q := 48) rfl rfl dX8_unite_47 rfl ?_
          refine g_iload (q := 50) rfl dX8_unite_48 rfl ?_
          refine g_Vr (q := 53) (d' := 1) (i := 90) (av := [.int (iI (i)), .int (iI (x))]) (st := []) (v := .int (iI ((if hs (S.1 i).1 (S.1 i).2 x = true then 1 else 0)))) kvX8_154 (t_X8_has l h2 i (S.1 i).1 (S.1 i).2 (hM1.doc hi) x (by omega) (by omega)) (by decide) A1 rfl (Nat.le_of_ble_eq_true rfl) ⟨(Nat.le_of_ble_eq_true rfl), (Nat.le_of_ble_eq_true rfl)⟩ ⟨(Nat.le_of_ble_eq_true rfl), (Nat.le_of_ble_eq_true rfl)⟩ rfl rfl dX8_unite_50 rfl ?_
          rw [e1]
          refine g_if_ne (t := 66) (q := 56) ⟨by omega, by omega⟩ dX8_unite_53 rfl rfl (fun c53 => ?_) (fun c53 => ?_)
          · exact k66 (by unfold uP; rw [zi1.mp (by omega)]; rfl)
          · refine g_aload_n (q := 57) rfl rfl dX8_unite_56 rfl ?_
            refine g_iload_n (q := 58) rfl rfl dX8_unite_57 rfl ?_
            refine g_iload (q := 60) rfl dX8_unite_58 rfl ?_
            refine g_Vr (q := 63) (d' := 1) (i := 90) (av := [.int (iI (j)), .int (iI (x))]) (st := []) (v := .int (iI ((if hs (S.1 j).1 (S.1 j).2 x = true then 1 else 0)))) kvX8_154 (t_X8_has l h2 j (S.1 j).1 (S.1 j).2 (hM1.doc hj) x (by omega) (by omega)) (by decide) A1 rfl (Nat.le_of_ble_eq_true rfl) ⟨(Nat.le_of_ble_eq_true rfl), (Nat.le_of_ble_eq_true rfl)⟩ ⟨(Nat.le_of_ble_eq_true rfl), (Nat.le_of_ble_eq_true rfl)⟩ rfl rfl dX8_unite_60 rfl ?_
            rw [e2]
            refine g_if_eq (t := 78) (q := 66) ⟨by omega, by omega⟩ dX8_unite_63 rfl rfl (fun c63 => ?_) (fun c63 => ?_)
            · have hno : ¬ uP S i j x = true := by
                unfold uP
                rw [Bool.or_eq_true]
                rintro (z | z)
                · have := zi1.mpr z; omega
                · have := zi2.mpr z; omega
              have es := en_f hno
              refine g_iinc (q := 81) (al2 := [some (.ref (90)), some (.int (iI (i))), some (.int (iI (j))), some (.int (iI (t))), some (.int (iI (n))), some (.int (iI (x + 1)))]) rfl (by decide) rfl rfl dX8_unite_78 rfl ?_
              refine g_goto (q := 38) dX8_unite_81 rfl ?_
              exact ih (x + 1, n, fd2, h2) ⟨by show x + 1 ≤ 512; omega, by rw [es]; exact en1, by rw [es]; exact ag1, hr, fr⟩ (by show 512 - (x + 1) < 512 - x; omega)
            · exact k66 (by unfold uP; rw [zi2.mp (by omega), Bool.or_true])
      · omega
set_option maxRecDepth 4000 in
theorem f4_X8_unite (l : Launch) (h : EHp) (th : Int) (S : ASt) (sv : List ASt) (hM : MRep h th S sv) (i j t : Nat) (hi : i < 4) (hj : j < 4) (ht : t < 4) (h64 : 64 < (uni S i j).1) : CT l mX8_unite 3 0 0 [.ref (90), .int (iI (i)), .int (iI (j)), .int (iI (t))] NN h (wP (fun v h' => v = .int (iI 0) ∧ MRep h' 2 S sv ∧ FrM h h')) := by
  obtain ⟨w, pst, bg, mn, lz, hA, ⟨m1, m2, m3, m4, m5⟩, ⟨⟨cs, s1⟩, ⟨ct, s2⟩, ⟨nx, s3⟩, ⟨fd, s4⟩, ⟨od, s5⟩⟩, hW, hP, hY⟩ := id hM
  obtain ⟨x1, x2, x3⟩ := hW.1 i hi
  obtain ⟨o1, o2, o3, o4⟩ := id x2
  have hj2 := (hW.1 j hj).2.1
  have hu := uni_128 x2 hj2
  refine CT.of (by decide) (Nat.le_of_ble_eq_true rfl) ?_
  refine g_al (al2 := [some (.ref (90)), some (.int (iI (i))), some (.int (iI (j))), some (.int (iI (t))), none, none]) rfl ?_
  refine g_aload_n (q := 1) rfl rfl dX8_unite_0 rfl ?_
  refine g_iconst (q := 2) dX8_unite_1 rfl ?_
  refine g_put (q := 5) fX8_41 (by decide) hA (Nat.le_of_ble_eq_true rfl) (fun _ _ => rfl) (fun _ _ => rfl) dX8_unite_2 rfl ?_
  refine hp_in (fun hh1 ehh1 => ?_)
  have fc2 : hh1 90 = cO 7 [.int (iI (0)), .ref (91), .ref (92), .int (iI (sv.length)), .ref (93), .ref (94), .ref (95), .ref (96), .ref (97), .ref (98), .ref (99), .ref (100)] := by rw [ehh1]; exact ueh_s
  have fc3 : hh1 91 = cI 272 w := by rw [ehh1, ueh_n (by decide)]; exact m1
  refine g_iload_n (q := 6) rfl rfl dX8_unite_5 rfl ?_
  have hM0 : MRep hh1 0 S sv := hM.thr fc2 (fun j hj => by rw [ehh1, ueh_n hj])
  have fr0 : ∀ j, j ≠ 90 → hh1 j = h j := fun j hj => by rw [ehh1, ueh_n hj]
  refine g_Sr (q := 9) (d' := 1) (av := [.int (iI (i))]) (st := []) (v := .int (iI (1))) ksX8_60 (t_X8_isList1 l hh1 i (by omega) (by omega)) rfl (Nat.le_of_ble_eq_true rfl) ⟨(Nat.le_of_ble_eq_true rfl), (Nat.le_of_ble_eq_true rfl)⟩ ⟨(Nat.le_of_ble_eq_true rfl), (Nat.le_of_ble_eq_true rfl)⟩ rfl rfl dX8_unite_6 rfl ?_
  refine g_if_eq (t := 26) (q := 12) ⟨by omega, by omega⟩ dX8_unite_9 rfl rfl (fun c9 => ?_) (fun c9 => ?_)
  · omega
  · refine g_iload_n (q := 13) rfl rfl dX8_unite_12 rfl ?_
    refine g_Sr (q := 16) (d' := 1) (av := [.int (iI (j))]) (st := []) (v := .int (iI (1))) ksX8_60 (t_X8_isList1 l hh1 j (by omega) (by omega)) rfl (Nat.le_of_ble_eq_true rfl) ⟨(Nat.le_of_ble_eq_true rfl), (Nat.le_of_ble_eq_true rfl)⟩ ⟨(Nat.le_of_ble_eq_true rfl), (Nat.le_of_ble_eq_true rfl)⟩ rfl rfl dX8_unite_13 rfl ?_
    refine g_if_eq (t := 26) (q := 19) ⟨by omega, by omega⟩ dX8_unite_16 rfl rfl (fun c16 => ?_) (fun c16 => ?_)
    · omega
    · refine g_iload_n (q := 20) rfl rfl dX8_unite_19 rfl ?_
      refine g_Sr (q := 23) (d' := 1) (av := [.int (iI (t))]) (st := []) (v := .int (iI (1))) ksX8_60 (t_X8_isList1 l hh1 t (by omega) (by omega)) rfl (Nat.le_of_ble_eq_true rfl) ⟨(Nat.le_of_ble_eq_true rfl), (Nat.le_of_ble_eq_true rfl)⟩ ⟨(Nat.le_of_ble_eq_true rfl), (Nat.le_of_ble_eq_true rfl)⟩ rfl rfl dX8_unite_20 rfl ?_
      refine g_if_ne (t := 32) (q := 26) ⟨by omega, by omega⟩ dX8_unite_23 rfl rfl (fun c23 => ?_) (fun c23 => ?_)
      · refine g_iconst (q := 33) dX8_unite_32 rfl ?_
        refine g_istore (q := 35) (al2 := [some (.ref (90)), some (.int (iI (i))), some (.int (iI (j))), some (.int (iI (t))), some (.int (iI (0))), none]) (by decide) rfl rfl dX8_unite_33 rfl ?_
        refine g_iconst (q := 36) dX8_unite_35 rfl ?_
        refine g_istore (q := 38) (al2 := [some (.ref (90)), some (.int (iI (i))), some (.int (iI (j))), some (.int (iI (t))), some (.int (iI (0))), some (.int (iI (0)))]) (by decide) rfl rfl dX8_unite_36 rfl ?_
        refine loopG (σ := Nat × Int × (Int → Int) × EHp) (P := fun zz => match zz with | (x, n, fd2, h2) => G l noX mX8_unite 3 0 0 (wP (fun v h' => v = .int (iI 0) ∧ MRep h' 2 S sv ∧ FrM h h')) 0 0 38 [some (.ref (90)), some (.int (iI (i))), some (.int (iI (j))), some (.int (iI (t))), some (.int (iI (n))), some (.int (iI (x)))] [] NN h2) (I := fun zz => match zz with | (x, n, fd2, h2) => x ≤ 512 ∧ n = (en (uP S i j) x).1 ∧ Ag n fd2 (en (uP S i j) x).2 ∧ h2 99 = cI 128 fd2 ∧ ∀ q, q ≠ 99 → h2 q = hh1 q) (fun zz => match zz with | (x, n, fd2, h2) => 512 - x) ?_ (0, 0, fd, hh1) ⟨by omega, rfl, fun q a b => by omega, by rw [fr0 99 (by decide)]; exact s4, fun _ _ => rfl⟩
        rintro ⟨x, n, fd2, h2⟩ hI ih
        obtain ⟨y1, en1, ag1, hr, fr⟩ := hI
        have nr := en_ok (uP S i j) x
        have hu0 := hu x
        have hM1 : MRep h2 0 S sv := hM0.scr hr ((fr 100 (by decide)).trans ((fr0 100 (by decide)).trans s5)) (fun q hq _ => fr q hq)
        obtain ⟨w1, pst1, bg1, mn1, lz1, A1, ⟨B1, -⟩, -, W1, -⟩ := id hM1
        refine g_iload (q := 40) rfl dX8_unite_38 rfl ?_
        refine g_sipush (q := 43) (by decide) dX8_unite_40 rfl ?_
        refine g_icmp_gt (t := 84) (q := 46) ⟨by omega, by omega⟩ ⟨by omega, by omega⟩ dX8_unite_43 rfl rfl (fun c43 => ?_) (fun c43 => ?_)
        · have e512 : x = 512 := by omega
          subst e512
          have en2 : n = (uni S i j).1 := en1
          subst en2
          refine g_iload (q := 86) rfl dX8_unite_84 rfl ?_
          refine g_bipush (q := 88) (by decide) dX8_unite_86 rfl ?_
          refine g_icmp_le (t := 97) (q := 91) ⟨by omega, by omega⟩ ⟨by omega, by omega⟩ dX8_unite_88 rfl rfl (fun c88 => ?_) (fun c88 => ?_)
          · omega
          · refine g_aload_n (q := 92) rfl rfl dX8_unite_91 rfl ?_
            refine g_iconst (q := 93) dX8_unite_92 rfl ?_
            refine g_Vw (q := 96) (d' := 0) (i := 90) (av := [.int (iI (2))]) (st := []) kvX8_64 (t_X8_fails l h2 0 S sv hM1 2) (by decide) A1 rfl (Nat.le_of_ble_eq_true rfl) ⟨(Nat.le_of_ble_eq_true rfl), (Nat.le_of_ble_eq_true rfl)⟩ ⟨(Nat.le_of_ble_eq_true rfl), (Nat.le_of_ble_eq_true rfl)⟩ rfl rfl dX8_unite_93 rfl (fun v hz hp => ?_)
            obtain ⟨rfl, p1, p2⟩ := hp
            exact g_ireturn (fun z => NN_f z) (Nat.le_of_ble_eq_true rfl) (Nat.le_of_ble_eq_true rfl) dX8_unite_96 rfl (wP_in ⟨rfl, p1, fun j hj => (p2 j (by omega)).trans ((fr j (by omega)).trans (fr0 j (by omega)))⟩)
        · have k66 : ∀ (hz : uP S i j x = true), G l noX mX8_unite 3 0 0 (wP (fun v h' => v = .int (iI 0) ∧ MRep h' 2 S sv ∧ FrM h h')) 0 0 66 [some (.ref (90)), some (.int (iI (i))), some (.int (iI (j))), some (.int (iI (t))), some (.int (iI (n))), some (.int (iI (x)))] [] NN h2 := by
            intro hz
            have es := en_t hz
            have hu1 := hu (x + 1)
            rw [es] at hu1
            simp only [] at hu1
            refine g_aload_n (q := 67) rfl rfl dX8_unite_66 rfl ?_
            refine g_get (q := 70) fX8_35r (by decide) A1 rfl dX8_unite_67 rfl ?_
            refine g_iload (q := 72) rfl dX8_unite_70 rfl ?_
            refine g_iload (q := 74) rfl dX8_unite_72 rfl ?_
            refine g_iastore (q := 75) (by decide) hr (by omega) (by omega) (by decide) dX8_unite_74 rfl ?_
            refine hp_in (fun hh4 ehh4 => ?_)
            have fc5 : hh4 90 = cO 7 [.int (iI (0)), .ref (91), .ref (92), .int (iI (sv.length)), .ref (93), .ref (94), .ref (95), .ref (96), .ref (97), .ref (98), .ref (99), .ref (100)] := by rw [ehh4, ueh_n (by decide)]; exact A1
            have fc6 : hh4 91 = cI 272 w1 := by rw [ehh4, ueh_n (by decide)]; exact B1
            have fc7 : hh4 99 = cI 128 (ui fd2 n x) := by rw [ehh4]; exact ueh_s
            refine g_iinc (q := 78) (al2 := [some (.ref (90)), some (.int (iI (i))), some (.int (iI (j))), some (.int (iI (t))), some (.int (iI (n + 1))), some (.int (iI (x)))]) rfl (by decide) rfl rfl dX8_unite_75 rfl ?_
            refine g_iinc (q := 81) (al2 := [some (.ref (90)), some (.int (iI (i))), some (.int (iI (j))), some (.int (iI (t))), some (.int (iI (n + 1))), some (.int (iI (x + 1)))]) rfl (by decide) rfl rfl dX8_unite_78 rfl ?_
            refine g_goto (q := 38) dX8_unite_81 rfl ?_
            exact ih (x + 1, n + 1, ui fd2 n x, hh4) ⟨by show x + 1 ≤ 512; omega, by rw [es, en1], by rw [es, ← en1]; exact ag_ui ag1 _, fc7, fun q hq => by rw [ehh4, ueh_n hq]; exact fr q hq⟩ (by show 512 - (x + 1) < 512 - x; omega)
          obtain ⟨z1, e1, zr1, zi1⟩ := hs01 (S.1 i).1 (S.1 i).2 x
          obtain ⟨z2, e2, zr2, zi2⟩ := hs01 (S.1 j).1 (S.1 j).2 x
          refine g_aload_n (q := 47) rfl rfl dX8_unite_46 rfl ?_
          refine g_iload_n (q := 48) rfl rfl dX8_unite_47 rfl ?_
          refine g_iload (q := 50) rfl dX8_unite_48 rfl ?_
          refine g_Vr (q := 53) (d' := 1) (i := 90) (av := [.int (iI (i)), .int (iI (x))]) (st := []) (v := .int (iI ((if hs (S.1 i).1 (S.1 i).2 x = true then 1 else 0)))) kvX8_154 (t_X8_has l h2 i (S.1 i).1 (S.1 i).2 (hM1.doc hi) x (by omega) (by omega)) (by decide) A1 rfl (Nat.le_of_ble_eq_true rfl) ⟨(Nat.le_of_ble_eq_true rfl), (Nat.le_of_ble_eq_true rfl)⟩ ⟨(Nat.le_of_ble_eq_true rfl), (Nat.le_of_ble_eq_true rfl)⟩ rfl rfl dX8_unite_50 rfl ?_
          rw [e1]
          refine g_if_ne (t := 66) (q := 56) ⟨by omega, by omega⟩ dX8_unite_53 rfl rfl (fun c53 => ?_) (fun c53 => ?_)
          · exact k66 (by unfold uP; rw [zi1.mp (by omega)]; rfl)
          · refine g_aload_n (q := 57) rfl rfl dX8_unite_56 rfl ?_
            refine g_iload_n (q := 58) rfl rfl dX8_unite_57 rfl ?_
            refine g_iload (q := 60) rfl dX8_unite_58 rfl ?_
            refine g_Vr (q := 63) (d' := 1) (i := 90) (av := [.int (iI (j)), .int (iI (x))]) (st := []) (v := .int (iI ((if hs (S.1 j).1 (S.1 j).2 x = true then 1 else 0)))) kvX8_154 (t_X8_has l h2 j (S.1 j).1 (S.1 j).2 (hM1.doc hj) x (by omega) (by omega)) (by decide) A1 rfl (Nat.le_of_ble_eq_true rfl) ⟨(Nat.le_of_ble_eq_true rfl), (Nat.le_of_ble_eq_true rfl)⟩ ⟨(Nat.le_of_ble_eq_true rfl), (Nat.le_of_ble_eq_true rfl)⟩ rfl rfl dX8_unite_60 rfl ?_
            rw [e2]
            refine g_if_eq (t := 78) (q := 66) ⟨by omega, by omega⟩ dX8_unite_63 rfl rfl (fun c63 => ?_) (fun c63 => ?_)
            · have hno : ¬ uP S i j x = true := by
                unfold uP
                rw [Bool.or_eq_true]
                rintro (z | z)
                · have := zi1.mpr z; omega
                · have := zi2.mpr z; omega
              have es := en_f hno
              refine g_iinc (q := 81) (al2 := [some (.ref (90)), some (.int (iI (i))), some (.int (iI (j))), some (.int (iI (t))), some (.int (iI (n))), some (.int (iI (x + 1)))]) rfl (by decide) rfl rfl dX8_unite_78 rfl ?_
              refine g_goto (q := 38) dX8_unite_81 rfl ?_
              exact ih (x + 1, n, fd2, h2) ⟨by show x + 1 ≤ 512; omega, by rw [es]; exact en1, by rw [es]; exact ag1, hr, fr⟩ (by show 512 - (x + 1) < 512 - x; omega)
            · exact k66 (by unfold uP; rw [zi2.mp (by omega), Bool.or_true])
      · omega
set_option maxRecDepth 4000 in
theorem f_X8_unite (l : Launch) (h : EHp) (th : Int) (S : ASt) (sv : List ASt) (hM : MRep h th S sv) (i j t : Int) (hi : IR i) (h0 : i < 0 ∨ 4 ≤ i) : CT l mX8_unite 3 0 0 [.ref (90), .int (iI (i)), .int (iI (j)), .int (iI (t))] NN h (wP (fun v h' => v = .int (iI 0) ∧ MRep h' 1 S sv ∧ FrM h h')) := by
  obtain ⟨w, pst, bg, mn, lz, hA, ⟨m1, m2, m3, m4, m5⟩, ⟨⟨cs, s1⟩, ⟨ct, s2⟩, ⟨nx, s3⟩, ⟨fd, s4⟩, ⟨od, s5⟩⟩, hW, hP, hY⟩ := id hM
  refine CT.of (by decide) (Nat.le_of_ble_eq_true rfl) ?_
  refine g_al (al2 := [some (.ref (90)), some (.int (iI (i))), some (.int (iI (j))), some (.int (iI (t))), none, none]) rfl ?_
  refine g_aload_n (q := 1) rfl rfl dX8_unite_0 rfl ?_
  refine g_iconst (q := 2) dX8_unite_1 rfl ?_
  refine g_put (q := 5) fX8_41 (by decide) hA (Nat.le_of_ble_eq_true rfl) (fun _ _ => rfl) (fun _ _ => rfl) dX8_unite_2 rfl ?_
  refine hp_in (fun hh1 ehh1 => ?_)
  have fc2 : hh1 90 = cO 7 [.int (iI (0)), .ref (91), .ref (92), .int (iI (sv.length)), .ref (93), .ref (94), .ref (95), .ref (96), .ref (97), .ref (98), .ref (99), .ref (100)] := by rw [ehh1]; exact ueh_s
  have fc3 : hh1 91 = cI 272 w := by rw [ehh1, ueh_n (by decide)]; exact m1
  refine g_iload_n (q := 6) rfl rfl dX8_unite_5 rfl ?_
  have hM0 : MRep hh1 0 S sv := hM.thr fc2 (fun j hj => by rw [ehh1, ueh_n hj])
  have fr0 : ∀ j, j ≠ 90 → hh1 j = h j := fun j hj => by rw [ehh1, ueh_n hj]
  refine g_Sr (q := 9) (d' := 1) (av := [.int (iI (i))]) (st := []) (v := .int (iI (0))) ksX8_60 (t_X8_isList0 l hh1 i hi (by omega)) rfl (Nat.le_of_ble_eq_true rfl) ⟨(Nat.le_of_ble_eq_true rfl), (Nat.le_of_ble_eq_true rfl)⟩ ⟨(Nat.le_of_ble_eq_true rfl), (Nat.le_of_ble_eq_true rfl)⟩ rfl rfl dX8_unite_6 rfl ?_
  refine g_if_eq (t := 26) (q := 12) ⟨by omega, by omega⟩ dX8_unite_9 rfl rfl (fun c9 => ?_) (fun c9 => ?_)
  · refine g_aload_n (q := 27) rfl rfl dX8_unite_26 rfl ?_
    refine g_iconst (q := 28) dX8_unite_27 rfl ?_
    refine g_Vw (q := 31) (d' := 0) (i := 90) (av := [.int (iI (1))]) (st := []) kvX8_64 (t_X8_fails l hh1 0 S sv hM0 1) (by decide) fc2 rfl (Nat.le_of_ble_eq_true rfl) ⟨(Nat.le_of_ble_eq_true rfl), (Nat.le_of_ble_eq_true rfl)⟩ ⟨(Nat.le_of_ble_eq_true rfl), (Nat.le_of_ble_eq_true rfl)⟩ rfl rfl dX8_unite_28 rfl (fun v hz hp => ?_)
    obtain ⟨rfl, p1, p2⟩ := hp
    exact g_ireturn (fun z => NN_f z) (Nat.le_of_ble_eq_true rfl) (Nat.le_of_ble_eq_true rfl) dX8_unite_31 rfl (wP_in ⟨rfl, p1, fun j hj => (p2 j (by omega)).trans (fr0 j (by omega))⟩)
  · omega
set_option maxRecDepth 4000 in
theorem f2_X8_unite (l : Launch) (h : EHp) (th : Int) (S : ASt) (sv : List ASt) (hM : MRep h th S sv) (i j t : Int) (hi : 0 ≤ i ∧ i < 4) (hj : IR j) (h0 : j < 0 ∨ 4 ≤ j) : CT l mX8_unite 3 0 0 [.ref (90), .int (iI (i)), .int (iI (j)), .int (iI (t))] NN h (wP (fun v h' => v = .int (iI 0) ∧ MRep h' 1 S sv ∧ FrM h h')) := by
  obtain ⟨w, pst, bg, mn, lz, hA, ⟨m1, m2, m3, m4, m5⟩, ⟨⟨cs, s1⟩, ⟨ct, s2⟩, ⟨nx, s3⟩, ⟨fd, s4⟩, ⟨od, s5⟩⟩, hW, hP, hY⟩ := id hM
  refine CT.of (by decide) (Nat.le_of_ble_eq_true rfl) ?_
  refine g_al (al2 := [some (.ref (90)), some (.int (iI (i))), some (.int (iI (j))), some (.int (iI (t))), none, none]) rfl ?_
  refine g_aload_n (q := 1) rfl rfl dX8_unite_0 rfl ?_
  refine g_iconst (q := 2) dX8_unite_1 rfl ?_
  refine g_put (q := 5) fX8_41 (by decide) hA (Nat.le_of_ble_eq_true rfl) (fun _ _ => rfl) (fun _ _ => rfl) dX8_unite_2 rfl ?_
  refine hp_in (fun hh1 ehh1 => ?_)
  have fc2 : hh1 90 = cO 7 [.int (iI (0)), .ref (91), .ref (92), .int (iI (sv.length)), .ref (93), .ref (94), .ref (95), .ref (96), .ref (97), .ref (98), .ref (99), .ref (100)] := by rw [ehh1]; exact ueh_s
  have fc3 : hh1 91 = cI 272 w := by rw [ehh1, ueh_n (by decide)]; exact m1
  refine g_iload_n (q := 6) rfl rfl dX8_unite_5 rfl ?_
  have hM0 : MRep hh1 0 S sv := hM.thr fc2 (fun j hj => by rw [ehh1, ueh_n hj])
  have fr0 : ∀ j, j ≠ 90 → hh1 j = h j := fun j hj => by rw [ehh1, ueh_n hj]
  refine g_Sr (q := 9) (d' := 1) (av := [.int (iI (i))]) (st := []) (v := .int (iI (1))) ksX8_60 (t_X8_isList1 l hh1 i (by omega) (by omega)) rfl (Nat.le_of_ble_eq_true rfl) ⟨(Nat.le_of_ble_eq_true rfl), (Nat.le_of_ble_eq_true rfl)⟩ ⟨(Nat.le_of_ble_eq_true rfl), (Nat.le_of_ble_eq_true rfl)⟩ rfl rfl dX8_unite_6 rfl ?_
  refine g_if_eq (t := 26) (q := 12) ⟨by omega, by omega⟩ dX8_unite_9 rfl rfl (fun c9 => ?_) (fun c9 => ?_)
  · omega
  · refine g_iload_n (q := 13) rfl rfl dX8_unite_12 rfl ?_
    refine g_Sr (q := 16) (d' := 1) (av := [.int (iI (j))]) (st := []) (v := .int (iI (0))) ksX8_60 (t_X8_isList0 l hh1 j hj (by omega)) rfl (Nat.le_of_ble_eq_true rfl) ⟨(Nat.le_of_ble_eq_true rfl), (Nat.le_of_ble_eq_true rfl)⟩ ⟨(Nat.le_of_ble_eq_true rfl), (Nat.le_of_ble_eq_true rfl)⟩ rfl rfl dX8_unite_13 rfl ?_
    refine g_if_eq (t := 26) (q := 19) ⟨by omega, by omega⟩ dX8_unite_16 rfl rfl (fun c16 => ?_) (fun c16 => ?_)
    · refine g_aload_n (q := 27) rfl rfl dX8_unite_26 rfl ?_
      refine g_iconst (q := 28) dX8_unite_27 rfl ?_
      refine g_Vw (q := 31) (d' := 0) (i := 90) (av := [.int (iI (1))]) (st := []) kvX8_64 (t_X8_fails l hh1 0 S sv hM0 1) (by decide) fc2 rfl (Nat.le_of_ble_eq_true rfl) ⟨(Nat.le_of_ble_eq_true rfl), (Nat.le_of_ble_eq_true rfl)⟩ ⟨(Nat.le_of_ble_eq_true rfl), (Nat.le_of_ble_eq_true rfl)⟩ rfl rfl dX8_unite_28 rfl (fun v hz hp => ?_)
      obtain ⟨rfl, p1, p2⟩ := hp
      exact g_ireturn (fun z => NN_f z) (Nat.le_of_ble_eq_true rfl) (Nat.le_of_ble_eq_true rfl) dX8_unite_31 rfl (wP_in ⟨rfl, p1, fun j hj => (p2 j (by omega)).trans (fr0 j (by omega))⟩)
    · omega
set_option maxRecDepth 4000 in
theorem f3_X8_unite (l : Launch) (h : EHp) (th : Int) (S : ASt) (sv : List ASt) (hM : MRep h th S sv) (i j t : Int) (hi : 0 ≤ i ∧ i < 4) (hj : 0 ≤ j ∧ j < 4) (ht : IR t) (h0 : t < 0 ∨ 4 ≤ t) : CT l mX8_unite 3 0 0 [.ref (90), .int (iI (i)), .int (iI (j)), .int (iI (t))] NN h (wP (fun v h' => v = .int (iI 0) ∧ MRep h' 1 S sv ∧ FrM h h')) := by
  obtain ⟨w, pst, bg, mn, lz, hA, ⟨m1, m2, m3, m4, m5⟩, ⟨⟨cs, s1⟩, ⟨ct, s2⟩, ⟨nx, s3⟩, ⟨fd, s4⟩, ⟨od, s5⟩⟩, hW, hP, hY⟩ := id hM
  refine CT.of (by decide) (Nat.le_of_ble_eq_true rfl) ?_
  refine g_al (al2 := [some (.ref (90)), some (.int (iI (i))), some (.int (iI (j))), some (.int (iI (t))), none, none]) rfl ?_
  refine g_aload_n (q := 1) rfl rfl dX8_unite_0 rfl ?_
  refine g_iconst (q := 2) dX8_unite_1 rfl ?_
  refine g_put (q := 5) fX8_41 (by decide) hA (Nat.le_of_ble_eq_true rfl) (fun _ _ => rfl) (fun _ _ => rfl) dX8_unite_2 rfl ?_
  refine hp_in (fun hh1 ehh1 => ?_)
  have fc2 : hh1 90 = cO 7 [.int (iI (0)), .ref (91), .ref (92), .int (iI (sv.length)), .ref (93), .ref (94), .ref (95), .ref (96), .ref (97), .ref (98), .ref (99), .ref (100)] := by rw [ehh1]; exact ueh_s
  have fc3 : hh1 91 = cI 272 w := by rw [ehh1, ueh_n (by decide)]; exact m1
  refine g_iload_n (q := 6) rfl rfl dX8_unite_5 rfl ?_
  have hM0 : MRep hh1 0 S sv := hM.thr fc2 (fun j hj => by rw [ehh1, ueh_n hj])
  have fr0 : ∀ j, j ≠ 90 → hh1 j = h j := fun j hj => by rw [ehh1, ueh_n hj]
  refine g_Sr (q := 9) (d' := 1) (av := [.int (iI (i))]) (st := []) (v := .int (iI (1))) ksX8_60 (t_X8_isList1 l hh1 i (by omega) (by omega)) rfl (Nat.le_of_ble_eq_true rfl) ⟨(Nat.le_of_ble_eq_true rfl), (Nat.le_of_ble_eq_true rfl)⟩ ⟨(Nat.le_of_ble_eq_true rfl), (Nat.le_of_ble_eq_true rfl)⟩ rfl rfl dX8_unite_6 rfl ?_
  refine g_if_eq (t := 26) (q := 12) ⟨by omega, by omega⟩ dX8_unite_9 rfl rfl (fun c9 => ?_) (fun c9 => ?_)
  · omega
  · refine g_iload_n (q := 13) rfl rfl dX8_unite_12 rfl ?_
    refine g_Sr (q := 16) (d' := 1) (av := [.int (iI (j))]) (st := []) (v := .int (iI (1))) ksX8_60 (t_X8_isList1 l hh1 j (by omega) (by omega)) rfl (Nat.le_of_ble_eq_true rfl) ⟨(Nat.le_of_ble_eq_true rfl), (Nat.le_of_ble_eq_true rfl)⟩ ⟨(Nat.le_of_ble_eq_true rfl), (Nat.le_of_ble_eq_true rfl)⟩ rfl rfl dX8_unite_13 rfl ?_
    refine g_if_eq (t := 26) (q := 19) ⟨by omega, by omega⟩ dX8_unite_16 rfl rfl (fun c16 => ?_) (fun c16 => ?_)
    · omega
    · refine g_iload_n (q := 20) rfl rfl dX8_unite_19 rfl ?_
      refine g_Sr (q := 23) (d' := 1) (av := [.int (iI (t))]) (st := []) (v := .int (iI (0))) ksX8_60 (t_X8_isList0 l hh1 t ht (by omega)) rfl (Nat.le_of_ble_eq_true rfl) ⟨(Nat.le_of_ble_eq_true rfl), (Nat.le_of_ble_eq_true rfl)⟩ ⟨(Nat.le_of_ble_eq_true rfl), (Nat.le_of_ble_eq_true rfl)⟩ rfl rfl dX8_unite_20 rfl ?_
      refine g_if_ne (t := 32) (q := 26) ⟨by omega, by omega⟩ dX8_unite_23 rfl rfl (fun c23 => ?_) (fun c23 => ?_)
      · omega
      · refine g_aload_n (q := 27) rfl rfl dX8_unite_26 rfl ?_
        refine g_iconst (q := 28) dX8_unite_27 rfl ?_
        refine g_Vw (q := 31) (d' := 0) (i := 90) (av := [.int (iI (1))]) (st := []) kvX8_64 (t_X8_fails l hh1 0 S sv hM0 1) (by decide) fc2 rfl (Nat.le_of_ble_eq_true rfl) ⟨(Nat.le_of_ble_eq_true rfl), (Nat.le_of_ble_eq_true rfl)⟩ ⟨(Nat.le_of_ble_eq_true rfl), (Nat.le_of_ble_eq_true rfl)⟩ rfl rfl dX8_unite_28 rfl (fun v hz hp => ?_)
        obtain ⟨rfl, p1, p2⟩ := hp
        exact g_ireturn (fun z => NN_f z) (Nat.le_of_ble_eq_true rfl) (Nat.le_of_ble_eq_true rfl) dX8_unite_31 rfl (wP_in ⟨rfl, p1, fun j hj => (p2 j (by omega)).trans (fr0 j (by omega))⟩)
set_option maxRecDepth 4000 in
theorem t_X8_subtract (l : Launch) (h : EHp) (th : Int) (S : ASt) (sv : List ASt) (hM : MRep h th S sv) (i j t : Nat) (hi : i < 4) (hj : j < 4) (ht : t < 4) : CT l mX8_subtract 3 0 0 [.ref (90), .int (iI (i)), .int (iI (j)), .int (iI (t))] NN h (wP (fun v h' => v = .int (iI ((sub S i j).1)) ∧ MRep h' 0 (wrL S t (sub S i j).1 (sub S i j).2) (push4 S sv) ∧ FrM h h')) := by
  obtain ⟨w, pst, bg, mn, lz, hA, ⟨m1, m2, m3, m4, m5⟩, ⟨⟨cs, s1⟩, ⟨ct, s2⟩, ⟨nx, s3⟩, ⟨fd, s4⟩, ⟨od, s5⟩⟩, hW, hP, hY⟩ := id hM
  obtain ⟨x1, x2, x3⟩ := hW.1 i hi
  obtain ⟨o1, o2, o3, o4⟩ := id x2
  have hj2 := (hW.1 j hj).2.1
  have hu := uni_128 x2 hj2
  have hO1 := sub_LOk (j := j) x2
  have hd := dif_ok (j := j) x2
  refine CT.of (by decide) (Nat.le_of_ble_eq_true rfl) ?_
  refine g_al (al2 := [some (.ref (90)), some (.int (iI (i))), some (.int (iI (j))), some (.int (iI (t))), none, none]) rfl ?_
  refine g_aload_n (q := 1) rfl rfl dX8_subtract_0 rfl ?_
  refine g_iconst (q := 2) dX8_subtract_1 rfl ?_
  refine g_put (q := 5) fX8_41 (by decide) hA (Nat.le_of_ble_eq_true rfl) (fun _ _ => rfl) (fun _ _ => rfl) dX8_subtract_2 rfl ?_
  refine hp_in (fun hh1 ehh1 => ?_)
  have fc2 : hh1 90 = cO 7 [.int (iI (0)), .ref (91), .ref (92), .int (iI (sv.length)), .ref (93), .ref (94), .ref (95), .ref (96), .ref (97), .ref (98), .ref (99), .ref (100)] := by rw [ehh1]; exact ueh_s
  have fc3 : hh1 91 = cI 272 w := by rw [ehh1, ueh_n (by decide)]; exact m1
  refine g_iload_n (q := 6) rfl rfl dX8_subtract_5 rfl ?_
  have hM0 : MRep hh1 0 S sv := hM.thr fc2 (fun j hj => by rw [ehh1, ueh_n hj])
  have fr0 : ∀ j, j ≠ 90 → hh1 j = h j := fun j hj => by rw [ehh1, ueh_n hj]
  refine g_Sr (q := 9) (d' := 1) (av := [.int (iI (i))]) (st := []) (v := .int (iI (1))) ksX8_60 (t_X8_isList1 l hh1 i (by omega) (by omega)) rfl (Nat.le_of_ble_eq_true rfl) ⟨(Nat.le_of_ble_eq_true rfl), (Nat.le_of_ble_eq_true rfl)⟩ ⟨(Nat.le_of_ble_eq_true rfl), (Nat.le_of_ble_eq_true rfl)⟩ rfl rfl dX8_subtract_6 rfl ?_
  refine g_if_eq (t := 26) (q := 12) ⟨by omega, by omega⟩ dX8_subtract_9 rfl rfl (fun c9 => ?_) (fun c9 => ?_)
  · omega
  · refine g_iload_n (q := 13) rfl rfl dX8_subtract_12 rfl ?_
    refine g_Sr (q := 16) (d' := 1) (av := [.int (iI (j))]) (st := []) (v := .int (iI (1))) ksX8_60 (t_X8_isList1 l hh1 j (by omega) (by omega)) rfl (Nat.le_of_ble_eq_true rfl) ⟨(Nat.le_of_ble_eq_true rfl), (Nat.le_of_ble_eq_true rfl)⟩ ⟨(Nat.le_of_ble_eq_true rfl), (Nat.le_of_ble_eq_true rfl)⟩ rfl rfl dX8_subtract_13 rfl ?_
    refine g_if_eq (t := 26) (q := 19) ⟨by omega, by omega⟩ dX8_subtract_16 rfl rfl (fun c16 => ?_) (fun c16 => ?_)
    · omega
    · refine g_iload_n (q := 20) rfl rfl dX8_subtract_19 rfl ?_
      refine g_Sr (q := 23) (d' := 1) (av := [.int (iI (t))]) (st := []) (v := .int (iI (1))) ksX8_60 (t_X8_isList1 l hh1 t (by omega) (by omega)) rfl (Nat.le_of_ble_eq_true rfl) ⟨(Nat.le_of_ble_eq_true rfl), (Nat.le_of_ble_eq_true rfl)⟩ ⟨(Nat.le_of_ble_eq_true rfl), (Nat.le_of_ble_eq_true rfl)⟩ rfl rfl dX8_subtract_20 rfl ?_
      refine g_if_ne (t := 32) (q := 26) ⟨by omega, by omega⟩ dX8_subtract_23 rfl rfl (fun c23 => ?_) (fun c23 => ?_)
      · refine g_iconst (q := 33) dX8_subtract_32 rfl ?_
        refine g_istore (q := 35) (al2 := [some (.ref (90)), some (.int (iI (i))), some (.int (iI (j))), some (.int (iI (t))), some (.int (iI (0))), none]) (by decide) rfl rfl dX8_subtract_33 rfl ?_
        refine g_iconst (q := 36) dX8_subtract_35 rfl ?_
        refine g_istore (q := 38) (al2 := [some (.ref (90)), some (.int (iI (i))), some (.int (iI (j))), some (.int (iI (t))), some (.int (iI (0))), some (.int (iI (0)))]) (by decide) rfl rfl dX8_subtract_36 rfl ?_
        refine loopG (σ := Nat × Int × (Int → Int) × EHp) (P := fun zz => match zz with | (k, n, fd2, h2) => G l noX mX8_subtract 3 0 0 (wP (fun v h' => v = .int (iI ((sub S i j).1)) ∧ MRep h' 0 (wrL S t (sub S i j).1 (sub S i j).2) (push4 S sv) ∧ FrM h h')) 0 0 38 [some (.ref (90)), some (.int (iI (i))), some (.int (iI (j))), some (.int (iI (t))), some (.int (iI (n))), some (.int (iI (k)))] [] NN h2) (I := fun zz => match zz with | (k, n, fd2, h2) => (k : Int) ≤ (S.1 i).1 ∧ n = (dif S i j k).1 ∧ Ag n fd2 (dif S i j k).2 ∧ h2 99 = cI 128 fd2 ∧ ∀ q, q ≠ 99 → h2 q = hh1 q) (fun zz => match zz with | (k, n, fd2, h2) => ((S.1 i).1 - k).toNat) ?_ (0, 0, fd, hh1) ⟨by omega, rfl, fun q a b => by omega, by rw [fr0 99 (by decide)]; exact s4, fun _ _ => rfl⟩
        rintro ⟨k, n, fd2, h2⟩ hI ih
        obtain ⟨y1, en1, ag1, hr, fr⟩ := hI
        obtain ⟨d1, d2, -, -⟩ := hd k y1
        have hM1 : MRep h2 0 S sv := hM0.scr hr ((fr 100 (by decide)).trans ((fr0 100 (by decide)).trans s5)) (fun q hq _ => fr q hq)
        obtain ⟨w1, pst1, bg1, mn1, lz1, A1, ⟨B1, -⟩, -, W1, -⟩ := id hM1
        have y2 := (W1.1 i hi).1
        refine g_iload (q := 40) rfl dX8_subtract_38 rfl ?_
        refine g_aload_n (q := 41) rfl rfl dX8_subtract_40 rfl ?_
        refine g_get (q := 44) fX8_7r (by decide) A1 rfl dX8_subtract_41 rfl ?_
        refine g_iload_n (q := 45) rfl rfl dX8_subtract_44 rfl ?_
        refine g_iaload (q := 46) (by decide) B1 (by omega) (by omega) (by decide) dX8_subtract_45 rfl ?_
        rw [y2]
        refine g_icmp_ge (t := 87) (q := 49) ⟨by omega, by omega⟩ ⟨by omega, by omega⟩ dX8_subtract_46 rfl rfl (fun c46 => ?_) (fun c46 => ?_)
        · have ek : k = (S.1 i).1.toNat := by omega
          subst ek
          have en2 : n = (sub S i j).1 := en1
          subst en2
          refine g_aload_n (q := 88) rfl rfl dX8_subtract_87 rfl ?_
          refine g_Vv (q := 91) (d' := 0) (i := 90) (av := []) (st := []) kvX8_72 (t_X8_save l h2 0 S sv hM1) (by decide) A1 rfl (Nat.le_of_ble_eq_true rfl) ⟨(Nat.le_of_ble_eq_true rfl), (Nat.le_of_ble_eq_true rfl)⟩ ⟨(Nat.le_of_ble_eq_true rfl), (Nat.le_of_ble_eq_true rfl)⟩ rfl rfl dX8_subtract_88 rfl (fun h3 hp => ?_)
          obtain ⟨hM3, fr3⟩ := hp
          obtain ⟨w3, pst3, bg3, mn3, lz3, A3, ⟨B3, -⟩, -, W3, -⟩ := id hM3
          refine g_aload_n (q := 92) rfl rfl dX8_subtract_91 rfl ?_
          refine g_iload_n (q := 93) rfl rfl dX8_subtract_92 rfl ?_
          refine g_iload (q := 95) rfl dX8_subtract_93 rfl ?_
          refine g_Vw (q := 98) (d' := 2) (i := 90) (av := [.int (iI (t)), .int (iI ((sub S i j).1))]) (st := []) kvX8_151 (t_X8_writes l h3 0 S (push4 S sv) hM3 t ht (sub S i j).1 (sub S i j).2 fd2 ((fr3 99 (by decide) (by decide)).trans hr) ag1 hO1) (by decide) A3 rfl (Nat.le_of_ble_eq_true rfl) ⟨(Nat.le_of_ble_eq_true rfl), (Nat.le_of_ble_eq_true rfl)⟩ ⟨(Nat.le_of_ble_eq_true rfl), (Nat.le_of_ble_eq_true rfl)⟩ rfl rfl dX8_subtract_95 rfl (fun v h9 hp => ?_)
          obtain ⟨rfl, hM9, fr9⟩ := hp
          exact g_ireturn (fun z => NN_f z) (Nat.le_of_ble_eq_true rfl) (Nat.le_of_ble_eq_true rfl) dX8_subtract_98 rfl (wP_in ⟨rfl, hM9, fun j hj => (fr9 j hj).trans ((fr3 j (by omega) (by omega)).trans ((fr j (by omega)).trans (fr0 j (by omega))))⟩)
        · have rk := o3 k (by omega) (by omega)
          obtain ⟨z1, e1, zr1, zi1⟩ := hs01 (S.1 j).1 (S.1 j).2 ((S.1 i).2 k)
          refine g_aload_n (q := 50) rfl rfl dX8_subtract_49 rfl ?_
          refine g_iload_n (q := 51) rfl rfl dX8_subtract_50 rfl ?_
          refine g_aload_n (q := 52) rfl rfl dX8_subtract_51 rfl ?_
          refine g_iload_n (q := 53) rfl rfl dX8_subtract_52 rfl ?_
          refine g_iload (q := 55) rfl dX8_subtract_53 rfl ?_
          refine g_Vr (q := 58) (d' := 0) (i := 90) (av := [.int (iI (i)), .int (iI (k))]) (st := [.int (iI (j)), .ref (90)]) (v := .int (iI ((S.1 i).2 k))) kvX8_56 (t_X8_doc l h2 i (S.1 i).1 (S.1 i).2 (hM1.doc hi) k (by omega) (by omega)) (by decide) A1 rfl (Nat.le_of_ble_eq_true rfl) ⟨(Nat.le_of_ble_eq_true rfl), (Nat.le_of_ble_eq_true rfl)⟩ ⟨(Nat.le_of_ble_eq_true rfl), (Nat.le_of_ble_eq_true rfl)⟩ rfl rfl dX8_subtract_55 rfl ?_
          refine g_Vr (q := 61) (d' := 1) (i := 90) (av := [.int (iI (j)), .int (iI ((S.1 i).2 k))]) (st := []) (v := .int (iI ((if hs (S.1 j).1 (S.1 j).2 ((S.1 i).2 k) = true then 1 else 0)))) kvX8_154 (t_X8_has l h2 j (S.1 j).1 (S.1 j).2 (hM1.doc hj) ((S.1 i).2 k) (by omega) (by omega)) (by decide) A1 rfl (Nat.le_of_ble_eq_true rfl) ⟨(Nat.le_of_ble_eq_true rfl), (Nat.le_of_ble_eq_true rfl)⟩ ⟨(Nat.le_of_ble_eq_true rfl), (Nat.le_of_ble_eq_true rfl)⟩ rfl rfl dX8_subtract_58 rfl ?_
          rw [e1]
          refine g_if_ne (t := 81) (q := 64) ⟨by omega, by omega⟩ dX8_subtract_61 rfl rfl (fun c61 => ?_) (fun c61 => ?_)
          · have es := dif_t (zi1.mp (by omega))
            refine g_iinc (q := 84) (al2 := [some (.ref (90)), some (.int (iI (i))), some (.int (iI (j))), some (.int (iI (t))), some (.int (iI (n))), some (.int (iI (k + 1)))]) rfl (by decide) rfl rfl dX8_subtract_81 rfl ?_
            refine g_goto (q := 38) dX8_subtract_84 rfl ?_
            exact ih (k + 1, n, fd2, h2) ⟨by omega, by rw [es]; exact en1, by rw [es]; exact ag1, hr, fr⟩ (by show ((S.1 i).1 - ((k + 1 : Nat) : Int)).toNat < ((S.1 i).1 - k).toNat; omega)
          · have hno : ¬ hs (S.1 j).1 (S.1 j).2 ((S.1 i).2 k) = true := fun z => by have := zi1.mpr z; omega
            have es := dif_f hno
            refine g_aload_n (q := 65) rfl rfl dX8_subtract_64 rfl ?_
            refine g_get (q := 68) fX8_35r (by decide) A1 rfl dX8_subtract_65 rfl ?_
            refine g_iload (q := 70) rfl dX8_subtract_68 rfl ?_
            refine g_aload_n (q := 71) rfl rfl dX8_subtract_70 rfl ?_
            refine g_iload_n (q := 72) rfl rfl dX8_subtract_71 rfl ?_
            refine g_iload (q := 74) rfl dX8_subtract_72 rfl ?_
            refine g_Vr (q := 77) (d' := 0) (i := 90) (av := [.int (iI (i)), .int (iI (k))]) (st := [.int (iI (n)), .ref (99)]) (v := .int (iI ((S.1 i).2 k))) kvX8_56 (t_X8_doc l h2 i (S.1 i).1 (S.1 i).2 (hM1.doc hi) k (by omega) (by omega)) (by decide) A1 rfl (Nat.le_of_ble_eq_true rfl) ⟨(Nat.le_of_ble_eq_true rfl), (Nat.le_of_ble_eq_true rfl)⟩ ⟨(Nat.le_of_ble_eq_true rfl), (Nat.le_of_ble_eq_true rfl)⟩ rfl rfl dX8_subtract_74 rfl ?_
            refine g_iastore (q := 78) (by decide) hr (by omega) (by omega) (by decide) dX8_subtract_77 rfl ?_
            refine hp_in (fun hh4 ehh4 => ?_)
            have fc5 : hh4 90 = cO 7 [.int (iI (0)), .ref (91), .ref (92), .int (iI (sv.length)), .ref (93), .ref (94), .ref (95), .ref (96), .ref (97), .ref (98), .ref (99), .ref (100)] := by rw [ehh4, ueh_n (by decide)]; exact A1
            have fc6 : hh4 91 = cI 272 w1 := by rw [ehh4, ueh_n (by decide)]; exact B1
            have fc7 : hh4 99 = cI 128 (ui fd2 n ((S.1 i).2 k)) := by rw [ehh4]; exact ueh_s
            refine g_iinc (q := 81) (al2 := [some (.ref (90)), some (.int (iI (i))), some (.int (iI (j))), some (.int (iI (t))), some (.int (iI (n + 1))), some (.int (iI (k)))]) rfl (by decide) rfl rfl dX8_subtract_78 rfl ?_
            refine g_iinc (q := 84) (al2 := [some (.ref (90)), some (.int (iI (i))), some (.int (iI (j))), some (.int (iI (t))), some (.int (iI (n + 1))), some (.int (iI (k + 1)))]) rfl (by decide) rfl rfl dX8_subtract_81 rfl ?_
            refine g_goto (q := 38) dX8_subtract_84 rfl ?_
            exact ih (k + 1, n + 1, ui fd2 n ((S.1 i).2 k), hh4) ⟨by omega, by rw [es, en1], by rw [es, ← en1]; exact ag_ui ag1 _, fc7, fun q hq => by rw [ehh4, ueh_n hq]; exact fr q hq⟩ (by show ((S.1 i).1 - ((k + 1 : Nat) : Int)).toNat < ((S.1 i).1 - k).toNat; omega)
      · omega
set_option maxRecDepth 4000 in
theorem f_X8_subtract (l : Launch) (h : EHp) (th : Int) (S : ASt) (sv : List ASt) (hM : MRep h th S sv) (i j t : Int) (hi : IR i) (h0 : i < 0 ∨ 4 ≤ i) : CT l mX8_subtract 3 0 0 [.ref (90), .int (iI (i)), .int (iI (j)), .int (iI (t))] NN h (wP (fun v h' => v = .int (iI 0) ∧ MRep h' 1 S sv ∧ FrM h h')) := by
  obtain ⟨w, pst, bg, mn, lz, hA, ⟨m1, m2, m3, m4, m5⟩, ⟨⟨cs, s1⟩, ⟨ct, s2⟩, ⟨nx, s3⟩, ⟨fd, s4⟩, ⟨od, s5⟩⟩, hW, hP, hY⟩ := id hM
  refine CT.of (by decide) (Nat.le_of_ble_eq_true rfl) ?_
  refine g_al (al2 := [some (.ref (90)), some (.int (iI (i))), some (.int (iI (j))), some (.int (iI (t))), none, none]) rfl ?_
  refine g_aload_n (q := 1) rfl rfl dX8_subtract_0 rfl ?_
  refine g_iconst (q := 2) dX8_subtract_1 rfl ?_
  refine g_put (q := 5) fX8_41 (by decide) hA (Nat.le_of_ble_eq_true rfl) (fun _ _ => rfl) (fun _ _ => rfl) dX8_subtract_2 rfl ?_
  refine hp_in (fun hh1 ehh1 => ?_)
  have fc2 : hh1 90 = cO 7 [.int (iI (0)), .ref (91), .ref (92), .int (iI (sv.length)), .ref (93), .ref (94), .ref (95), .ref (96), .ref (97), .ref (98), .ref (99), .ref (100)] := by rw [ehh1]; exact ueh_s
  have fc3 : hh1 91 = cI 272 w := by rw [ehh1, ueh_n (by decide)]; exact m1
  refine g_iload_n (q := 6) rfl rfl dX8_subtract_5 rfl ?_
  have hM0 : MRep hh1 0 S sv := hM.thr fc2 (fun j hj => by rw [ehh1, ueh_n hj])
  have fr0 : ∀ j, j ≠ 90 → hh1 j = h j := fun j hj => by rw [ehh1, ueh_n hj]
  refine g_Sr (q := 9) (d' := 1) (av := [.int (iI (i))]) (st := []) (v := .int (iI (0))) ksX8_60 (t_X8_isList0 l hh1 i hi (by omega)) rfl (Nat.le_of_ble_eq_true rfl) ⟨(Nat.le_of_ble_eq_true rfl), (Nat.le_of_ble_eq_true rfl)⟩ ⟨(Nat.le_of_ble_eq_true rfl), (Nat.le_of_ble_eq_true rfl)⟩ rfl rfl dX8_subtract_6 rfl ?_
  refine g_if_eq (t := 26) (q := 12) ⟨by omega, by omega⟩ dX8_subtract_9 rfl rfl (fun c9 => ?_) (fun c9 => ?_)
  · refine g_aload_n (q := 27) rfl rfl dX8_subtract_26 rfl ?_
    refine g_iconst (q := 28) dX8_subtract_27 rfl ?_
    refine g_Vw (q := 31) (d' := 0) (i := 90) (av := [.int (iI (1))]) (st := []) kvX8_64 (t_X8_fails l hh1 0 S sv hM0 1) (by decide) fc2 rfl (Nat.le_of_ble_eq_true rfl) ⟨(Nat.le_of_ble_eq_true rfl), (Nat.le_of_ble_eq_true rfl)⟩ ⟨(Nat.le_of_ble_eq_true rfl), (Nat.le_of_ble_eq_true rfl)⟩ rfl rfl dX8_subtract_28 rfl (fun v hz hp => ?_)
    obtain ⟨rfl, p1, p2⟩ := hp
    exact g_ireturn (fun z => NN_f z) (Nat.le_of_ble_eq_true rfl) (Nat.le_of_ble_eq_true rfl) dX8_subtract_31 rfl (wP_in ⟨rfl, p1, fun j hj => (p2 j (by omega)).trans (fr0 j (by omega))⟩)
  · omega
set_option maxRecDepth 4000 in
theorem f2_X8_subtract (l : Launch) (h : EHp) (th : Int) (S : ASt) (sv : List ASt) (hM : MRep h th S sv) (i j t : Int) (hi : 0 ≤ i ∧ i < 4) (hj : IR j) (h0 : j < 0 ∨ 4 ≤ j) : CT l mX8_subtract 3 0 0 [.ref (90), .int (iI (i)), .int (iI (j)), .int (iI (t))] NN h (wP (fun v h' => v = .int (iI 0) ∧ MRep h' 1 S sv ∧ FrM h h')) := by
  obtain ⟨w, pst, bg, mn, lz, hA, ⟨m1, m2, m3, m4, m5⟩, ⟨⟨cs, s1⟩, ⟨ct, s2⟩, ⟨nx, s3⟩, ⟨fd, s4⟩, ⟨od, s5⟩⟩, hW, hP, hY⟩ := id hM
  refine CT.of (by decide) (Nat.le_of_ble_eq_true rfl) ?_
  refine g_al (al2 := [some (.ref (90)), some (.int (iI (i))), some (.int (iI (j))), some (.int (iI (t))), none, none]) rfl ?_
  refine g_aload_n (q := 1) rfl rfl dX8_subtract_0 rfl ?_
  refine g_iconst (q := 2) dX8_subtract_1 rfl ?_
  refine g_put (q := 5) fX8_41 (by decide) hA (Nat.le_of_ble_eq_true rfl) (fun _ _ => rfl) (fun _ _ => rfl) dX8_subtract_2 rfl ?_
  refine hp_in (fun hh1 ehh1 => ?_)
  have fc2 : hh1 90 = cO 7 [.int (iI (0)), .ref (91), .ref (92), .int (iI (sv.length)), .ref (93), .ref (94), .ref (95), .ref (96), .ref (97), .ref (98), .ref (99), .ref (100)] := by rw [ehh1]; exact ueh_s
  have fc3 : hh1 91 = cI 272 w := by rw [ehh1, ueh_n (by decide)]; exact m1
  refine g_iload_n (q := 6) rfl rfl dX8_subtract_5 rfl ?_
  have hM0 : MRep hh1 0 S sv := hM.thr fc2 (fun j hj => by rw [ehh1, ueh_n hj])
  have fr0 : ∀ j, j ≠ 90 → hh1 j = h j := fun j hj => by rw [ehh1, ueh_n hj]
  refine g_Sr (q := 9) (d' := 1) (av := [.int (iI (i))]) (st := []) (v := .int (iI (1))) ksX8_60 (t_X8_isList1 l hh1 i (by omega) (by omega)) rfl (Nat.le_of_ble_eq_true rfl) ⟨(Nat.le_of_ble_eq_true rfl), (Nat.le_of_ble_eq_true rfl)⟩ ⟨(Nat.le_of_ble_eq_true rfl), (Nat.le_of_ble_eq_true rfl)⟩ rfl rfl dX8_subtract_6 rfl ?_
  refine g_if_eq (t := 26) (q := 12) ⟨by omega, by omega⟩ dX8_subtract_9 rfl rfl (fun c9 => ?_) (fun c9 => ?_)
  · omega
  · refine g_iload_n (q := 13) rfl rfl dX8_subtract_12 rfl ?_
    refine g_Sr (q := 16) (d' := 1) (av := [.int (iI (j))]) (st := []) (v := .int (iI (0))) ksX8_60 (t_X8_isList0 l hh1 j hj (by omega)) rfl (Nat.le_of_ble_eq_true rfl) ⟨(Nat.le_of_ble_eq_true rfl), (Nat.le_of_ble_eq_true rfl)⟩ ⟨(Nat.le_of_ble_eq_true rfl), (Nat.le_of_ble_eq_true rfl)⟩ rfl rfl dX8_subtract_13 rfl ?_
    refine g_if_eq (t := 26) (q := 19) ⟨by omega, by omega⟩ dX8_subtract_16 rfl rfl (fun c16 => ?_) (fun c16 => ?_)
    · refine g_aload_n (q := 27) rfl rfl dX8_subtract_26 rfl ?_
      refine g_iconst (q := 28) dX8_subtract_27 rfl ?_
      refine g_Vw (q := 31) (d' := 0) (i := 90) (av := [.int (iI (1))]) (st := []) kvX8_64 (t_X8_fails l hh1 0 S sv hM0 1) (by decide) fc2 rfl (Nat.le_of_ble_eq_true rfl) ⟨(Nat.le_of_ble_eq_true rfl), (Nat.le_of_ble_eq_true rfl)⟩ ⟨(Nat.le_of_ble_eq_true rfl), (Nat.le_of_ble_eq_true rfl)⟩ rfl rfl dX8_subtract_28 rfl (fun v hz hp => ?_)
      obtain ⟨rfl, p1, p2⟩ := hp
      exact g_ireturn (fun z => NN_f z) (Nat.le_of_ble_eq_true rfl) (Nat.le_of_ble_eq_true rfl) dX8_subtract_31 rfl (wP_in ⟨rfl, p1, fun j hj => (p2 j (by omega)).trans (fr0 j (by omega))⟩)
    · omega
set_option maxRecDepth 4000 in
theorem f3_X8_subtract (l : Launch) (h : EHp) (th : Int) (S : ASt) (sv : List ASt) (hM : MRep h th S sv) (i j t : Int) (hi : 0 ≤ i ∧ i < 4) (hj : 0 ≤ j ∧ j < 4) (ht : IR t) (h0 : t < 0 ∨ 4 ≤ t) : CT l mX8_subtract 3 0 0 [.ref (90), .int (iI (i)), .int (iI (j)), .int (iI (t))] NN h (wP (fun v h' => v = .int (iI 0) ∧ MRep h' 1 S sv ∧ FrM h h')) := by
  obtain ⟨w, pst, bg, mn, lz, hA, ⟨m1, m2, m3, m4, m5⟩, ⟨⟨cs, s1⟩, ⟨ct, s2⟩, ⟨nx, s3⟩, ⟨fd, s4⟩, ⟨od, s5⟩⟩, hW, hP, hY⟩ := id hM
  refine CT.of (by decide) (Nat.le_of_ble_eq_true rfl) ?_
  refine g_al (al2 := [some (.ref (90)), some (.int (iI (i))), some (.int (iI (j))), some (.int (iI (t))), none, none]) rfl ?_
  refine g_aload_n (q := 1) rfl rfl dX8_subtract_0 rfl ?_
  refine g_iconst (q := 2) dX8_subtract_1 rfl ?_
  refine g_put (q := 5) fX8_41 (by decide) hA (Nat.le_of_ble_eq_true rfl) (fun _ _ => rfl) (fun _ _ => rfl) dX8_subtract_2 rfl ?_
  refine hp_in (fun hh1 ehh1 => ?_)
  have fc2 : hh1 90 = cO 7 [.int (iI (0)), .ref (91), .ref (92), .int (iI (sv.length)), .ref (93), .ref (94), .ref (95), .ref (96), .ref (97), .ref (98), .ref (99), .ref (100)] := by rw [ehh1]; exact ueh_s
  have fc3 : hh1 91 = cI 272 w := by rw [ehh1, ueh_n (by decide)]; exact m1
  refine g_iload_n (q := 6) rfl rfl dX8_subtract_5 rfl ?_
  have hM0 : MRep hh1 0 S sv := hM.thr fc2 (fun j hj => by rw [ehh1, ueh_n hj])
  have fr0 : ∀ j, j ≠ 90 → hh1 j = h j := fun j hj => by rw [ehh1, ueh_n hj]
  refine g_Sr (q := 9) (d' := 1) (av := [.int (iI (i))]) (st := []) (v := .int (iI (1))) ksX8_60 (t_X8_isList1 l hh1 i (by omega) (by omega)) rfl (Nat.le_of_ble_eq_true rfl) ⟨(Nat.le_of_ble_eq_true rfl), (Nat.le_of_ble_eq_true rfl)⟩ ⟨(Nat.le_of_ble_eq_true rfl), (Nat.le_of_ble_eq_true rfl)⟩ rfl rfl dX8_subtract_6 rfl ?_
  refine g_if_eq (t := 26) (q := 12) ⟨by omega, by omega⟩ dX8_subtract_9 rfl rfl (fun c9 => ?_) (fun c9 => ?_)
  · omega
  · refine g_iload_n (q := 13) rfl rfl dX8_subtract_12 rfl ?_
    refine g_Sr (q := 16) (d' := 1) (av := [.int (iI (j))]) (st := []) (v := .int (iI (1))) ksX8_60 (t_X8_isList1 l hh1 j (by omega) (by omega)) rfl (Nat.le_of_ble_eq_true rfl) ⟨(Nat.le_of_ble_eq_true rfl), (Nat.le_of_ble_eq_true rfl)⟩ ⟨(Nat.le_of_ble_eq_true rfl), (Nat.le_of_ble_eq_true rfl)⟩ rfl rfl dX8_subtract_13 rfl ?_
    refine g_if_eq (t := 26) (q := 19) ⟨by omega, by omega⟩ dX8_subtract_16 rfl rfl (fun c16 => ?_) (fun c16 => ?_)
    · omega
    · refine g_iload_n (q := 20) rfl rfl dX8_subtract_19 rfl ?_
      refine g_Sr (q := 23) (d' := 1) (av := [.int (iI (t))]) (st := []) (v := .int (iI (0))) ksX8_60 (t_X8_isList0 l hh1 t ht (by omega)) rfl (Nat.le_of_ble_eq_true rfl) ⟨(Nat.le_of_ble_eq_true rfl), (Nat.le_of_ble_eq_true rfl)⟩ ⟨(Nat.le_of_ble_eq_true rfl), (Nat.le_of_ble_eq_true rfl)⟩ rfl rfl dX8_subtract_20 rfl ?_
      refine g_if_ne (t := 32) (q := 26) ⟨by omega, by omega⟩ dX8_subtract_23 rfl rfl (fun c23 => ?_) (fun c23 => ?_)
      · omega
      · refine g_aload_n (q := 27) rfl rfl dX8_subtract_26 rfl ?_
        refine g_iconst (q := 28) dX8_subtract_27 rfl ?_
        refine g_Vw (q := 31) (d' := 0) (i := 90) (av := [.int (iI (1))]) (st := []) kvX8_64 (t_X8_fails l hh1 0 S sv hM0 1) (by decide) fc2 rfl (Nat.le_of_ble_eq_true rfl) ⟨(Nat.le_of_ble_eq_true rfl), (Nat.le_of_ble_eq_true rfl)⟩ ⟨(Nat.le_of_ble_eq_true rfl), (Nat.le_of_ble_eq_true rfl)⟩ rfl rfl dX8_subtract_28 rfl (fun v hz hp => ?_)
        obtain ⟨rfl, p1, p2⟩ := hp
        exact g_ireturn (fun z => NN_f z) (Nat.le_of_ble_eq_true rfl) (Nat.le_of_ble_eq_true rfl) dX8_subtract_31 rfl (wP_in ⟨rfl, p1, fun j hj => (p2 j (by omega)).trans (fr0 j (by omega))⟩)
set_option maxRecDepth 4000 in
theorem t_X8_setCapacity (l : Launch) (h : EHp) (th : Int) (S : ASt) (sv : List ASt) (hM : MRep h th S sv) (cp : Nat) (hc : cp ≤ 8) : CT l mX8_setCapacity 1 0 0 [.ref (90), .int (iI (cp))] NN h (wP (fun v h' => v = .int (iI (S.2.1)) ∧ MRep h' 0 (S.1, (cp : Int), trim cp S.2.2.1, S.2.2.2.1, S.2.2.2.2) (push4 S sv) ∧ FrM h h')) := by
  obtain ⟨w, pst, bg, mn, lz, hA, ⟨m1, m2, m3, m4, m5⟩, ⟨⟨cs, s1⟩, ⟨ct, s2⟩, ⟨nx, s3⟩, ⟨fd, s4⟩, ⟨od, s5⟩⟩, hW, hP, hY⟩ := id hM
  refine CT.of (by decide) (Nat.le_of_ble_eq_true rfl) ?_
  refine g_al (al2 := [some (.ref (90)), some (.int (iI (cp))), none]) rfl ?_
  refine g_aload_n (q := 1) rfl rfl dX8_setCapacity_0 rfl ?_
  refine g_iconst (q := 2) dX8_setCapacity_1 rfl ?_
  refine g_put (q := 5) fX8_41 (by decide) hA (Nat.le_of_ble_eq_true rfl) (fun _ _ => rfl) (fun _ _ => rfl) dX8_setCapacity_2 rfl ?_
  refine hp_in (fun hh1 ehh1 => ?_)
  have fc2 : hh1 90 = cO 7 [.int (iI (0)), .ref (91), .ref (92), .int (iI (sv.length)), .ref (93), .ref (94), .ref (95), .ref (96), .ref (97), .ref (98), .ref (99), .ref (100)] := by rw [ehh1]; exact ueh_s
  have fc3 : hh1 91 = cI 272 w := by rw [ehh1, ueh_n (by decide)]; exact m1
  refine g_iload_n (q := 6) rfl rfl dX8_setCapacity_5 rfl ?_
  refine g_iconst (q := 7) dX8_setCapacity_6 rfl ?_
  refine g_bipush (q := 9) (by decide) dX8_setCapacity_7 rfl ?_
  have hM0 : MRep hh1 0 S sv := hM.thr fc2 (fun j hj => by rw [ehh1, ueh_n hj])
  have fr0 : ∀ j, j ≠ 90 → hh1 j = h j := fun j hj => by rw [ehh1, ueh_n hj]
  refine g_Sr (q := 12) (d' := 0) (av := [.int (iI (cp)), .int (iI (0)), .int (iI (8))]) (st := []) (v := .int (iI (1))) ksX8_45 (t_X8_in1 l hh1 ((cp : Int)) (0) (8) ⟨by omega, by omega⟩ ⟨by omega, by omega⟩ ⟨by omega, by omega⟩ (by omega) (by omega)) rfl (Nat.le_of_ble_eq_true rfl) ⟨(Nat.le_of_ble_eq_true rfl), (Nat.le_of_ble_eq_true rfl)⟩ ⟨(Nat.le_of_ble_eq_true rfl), (Nat.le_of_ble_eq_true rfl)⟩ rfl rfl dX8_setCapacity_9 rfl ?_
  refine g_if_ne (t := 21) (q := 15) ⟨by omega, by omega⟩ dX8_setCapacity_12 rfl rfl (fun c12 => ?_) (fun c12 => ?_)
  · refine g_aload_n (q := 22) rfl rfl dX8_setCapacity_21 rfl ?_
    refine g_Vv (q := 25) (d' := 0) (i := 90) (av := []) (st := []) kvX8_72 (t_X8_save l hh1 0 S sv hM0) (by decide) fc2 rfl (Nat.le_of_ble_eq_true rfl) ⟨(Nat.le_of_ble_eq_true rfl), (Nat.le_of_ble_eq_true rfl)⟩ ⟨(Nat.le_of_ble_eq_true rfl), (Nat.le_of_ble_eq_true rfl)⟩ rfl rfl dX8_setCapacity_22 rfl (fun h1 hp => ?_)
    obtain ⟨hM1, fr1⟩ := hp
    obtain ⟨w1, pst1, bg1, mn1, lz1, A1, ⟨B1, -⟩, -, W1, -⟩ := id hM1
    obtain ⟨wl, w8⟩ := W1.len
    obtain ⟨-, w260, -, -, -, -, cp0, cp8, lcp, -⟩ := id W1
    refine g_aload_n (q := 26) rfl rfl dX8_setCapacity_25 rfl ?_
    refine g_get (q := 29) fX8_7r (by decide) A1 rfl dX8_setCapacity_26 rfl ?_
    refine g_sipush (q := 32) (by decide) dX8_setCapacity_29 rfl ?_
    refine g_iaload (q := 33) (by decide) B1 (by decide) (by decide) (by decide) dX8_setCapacity_32 rfl ?_
    rw [w260]
    refine g_istore_n (q := 34) (al2 := [some (.ref (90)), some (.int (iI (cp))), some (.int (iI (S.2.1)))]) rfl (by decide) rfl rfl dX8_setCapacity_33 rfl ?_
    refine g_aload_n (q := 35) rfl rfl dX8_setCapacity_34 rfl ?_
    refine g_get (q := 38) fX8_7r (by decide) A1 rfl dX8_setCapacity_35 rfl ?_
    refine g_sipush (q := 41) (by decide) dX8_setCapacity_38 rfl ?_
    refine g_iload_n (q := 42) rfl rfl dX8_setCapacity_41 rfl ?_
    refine g_iastore (q := 43) (by decide) B1 (by decide) (by decide) (by decide) dX8_setCapacity_42 rfl ?_
    refine hp_in (fun hh4 ehh4 => ?_)
    have fc5 : hh4 90 = cO 7 [.int (iI (0)), .ref (91), .ref (92), .int (iI ((push4 S sv).length)), .ref (93), .ref (94), .ref (95), .ref (96), .ref (97), .ref (98), .ref (99), .ref (100)] := by rw [ehh4, ueh_n (by decide)]; exact A1
    have fc6 : hh4 91 = cI 272 (ui w1 260 cp) := by rw [ehh4]; exact ueh_s
    have fr2 : ∀ j, j ≠ 91 → hh4 j = h1 j := fun j hj => by rw [ehh4, ueh_n hj]
    refine loopG (σ := Nat × (Int → Int) × EHp) (P := fun zz => match zz with | (q, w3, h3) => G l noX mX8_setCapacity 1 0 0 (wP (fun v h' => v = .int (iI (S.2.1)) ∧ MRep h' 0 (S.1, (cp : Int), trim cp S.2.2.1, S.2.2.2.1, S.2.2.2.2) (push4 S sv) ∧ FrM h h')) 0 0 43 [some (.ref (90)), some (.int (iI (cp))), some (.int (iI (S.2.1)))] [] NN h3) (I := fun zz => match zz with | (q, w3, h3) => h3 91 = cI 272 w3 ∧ w3 260 = cp ∧ WR (ui w3 260 S.2.1) (setC S (S.2.2.1.drop q)) ∧ q ≤ S.2.2.1.length - cp ∧ ∀ j, j ≠ 91 → h3 j = h1 j) (fun zz => match zz with | (q, w3, h3) => S.2.2.1.length - cp - q) ?_ (0, ui w1 260 cp, hh4) ⟨fc6, by unfold ui; rw [if_pos rfl], by rw [ui_ui, ui_id w260]; exact W1, Nat.zero_le _, fr2⟩
    rintro ⟨q, w3, h3⟩ hI ih
    obtain ⟨B3, u260, W3, q1, fr3⟩ := hI
    obtain ⟨vl, v8⟩ := W3.len
    have vl : w3 261 = ((S.2.2.1.drop q).length : Int) := by rw [show w3 261 = ui w3 260 S.2.1 261 by unfold ui; rw [if_neg (by omega)]]; exact vl
    have v8 : ((S.2.2.1.drop q).length : Int) ≤ 8 := v8
    have A3 : h3 90 = _ := (fr3 90 (by decide)).trans A1
    have ld : (S.2.2.1.drop q).length = S.2.2.1.length - q := List.length_drop
    refine g_aload_n (q := 44) rfl rfl dX8_setCapacity_43 rfl ?_
    refine g_get (q := 47) fX8_7r (by decide) A3 rfl dX8_setCapacity_44 rfl ?_
    refine g_sipush (q := 50) (by decide) dX8_setCapacity_47 rfl ?_
    refine g_iaload (q := 51) (by decide) B3 (by decide) (by decide) (by decide) dX8_setCapacity_50 rfl ?_
    rw [vl]
    refine g_iload_n (q := 52) rfl rfl dX8_setCapacity_51 rfl ?_
    refine g_icmp_le (t := 63) (q := 55) ⟨by omega, by omega⟩ ⟨by omega, by omega⟩ dX8_setCapacity_52 rfl rfl (fun c52 => ?_) (fun c52 => ?_)
    · have eq : q = S.2.2.1.length - cp := by omega
      have et : S.2.2.1.drop q = trim cp S.2.2.1 := by unfold trim; rw [eq]
      have W4 := WR.cap W3 u260 (by omega) (by omega) (by omega)
      rw [et] at W4
      have hM3 : MRep h3 0 (S.1, (cp : Int), trim cp S.2.2.1, S.2.2.2.1, S.2.2.2.2) (push4 S sv) := by
        obtain ⟨w9, pst9, bg9, mn9, lz9, hMR⟩ := hM1
        exact ⟨_, _, _, _, _, hMR.row (fun j hj => fr3 j hj) B3 W4 rfl⟩
      refine g_iload_n (q := 64) rfl rfl dX8_setCapacity_63 rfl ?_
      exact g_ireturn (fun z => NN_f z) (Nat.le_of_ble_eq_true rfl) (Nat.le_of_ble_eq_true rfl) dX8_setCapacity_64 rfl (wP_in ⟨rfl, hM3, fun j hj => (fr3 j (by omega)).trans ((fr1 j (by omega) (by omega)).trans (fr0 j (by omega)))⟩)
    · refine g_aload_n (q := 56) rfl rfl dX8_setCapacity_55 rfl ?_
      refine g_iconst (q := 57) dX8_setCapacity_56 rfl ?_
      refine g_Vv (q := 60) (d' := 0) (i := 90) (av := [.int (iI (0))]) (st := []) kvX8_52 (t_X8_drop l h3 0 (push4 S sv).length w3 A3 B3 0 (by omega) (by omega)) (by decide) A3 rfl (Nat.le_of_ble_eq_true rfl) ⟨(Nat.le_of_ble_eq_true rfl), (Nat.le_of_ble_eq_true rfl)⟩ ⟨(Nat.le_of_ble_eq_true rfl), (Nat.le_of_ble_eq_true rfl)⟩ rfl rfl dX8_setCapacity_57 rfl (fun h4 hp => ?_)
      obtain ⟨w4, q2, q3, q4, q5, q6⟩ := hp
      have u : ∀ (z : Int → Int) (k : Int), k ≠ 260 → ui z 260 S.2.1 k = z k := fun z k hk => by unfold ui; rw [if_neg hk]
      have W4 := WR.drop (w' := ui w4 260 S.2.1) (p := 0) W3 (by show 0 < (S.2.2.1.drop q).length; omega) (by rw [u _ _ (by omega), u _ _ (by omega)]; exact q3) (fun k k0 k1 => by rw [u _ 261 (by omega)] at k1; rw [u _ _ (by omega), u _ _ (by omega)]; exact q4 k k0 k1) (fun k k0 k1 => by
          rw [u _ 261 (by omega)] at k1
          by_cases e : k = 260
          · rw [e]; unfold ui; rw [if_pos rfl, if_pos rfl]
          · rw [u _ _ e, u _ _ e]; exact q5 k k0 k1)
      have u2 : w4 260 = cp := by rw [q5 260 (by omega) (by omega)]; exact u260
      have ed : (setC S (S.2.2.1.drop q)).2.2.1.eraseIdx 0 = S.2.2.1.drop (q + 1) := by show (S.2.2.1.drop q).eraseIdx 0 = _; rw [List.eraseIdx_zero, List.tail_drop]
      have es : ers (setC S (S.2.2.1.drop q)) 0 = setC S (S.2.2.1.drop (q + 1)) := by unfold ers; rw [ed]; rfl
      rw [es] at W4
      refine g_goto (q := 43) dX8_setCapacity_60 rfl ?_
      exact ih (q + 1, w4, h4) ⟨q2, u2, W4, by omega, fun j hj => (q6 j hj).trans (fr3 j hj)⟩ (by show S.2.2.1.length - cp - (q + 1) < S.2.2.1.length - cp - q; omega)
  · omega
set_option maxRecDepth 4000 in
theorem f_X8_setCapacity (l : Launch) (h : EHp) (th : Int) (S : ASt) (sv : List ASt) (hM : MRep h th S sv) (cp : Int) (hc : IR cp) (hx : cp < 0 ∨ 8 < cp) : CT l mX8_setCapacity 1 0 0 [.ref (90), .int (iI (cp))] NN h (wP (fun v h' => v = .int (iI 0) ∧ MRep h' 1 S sv ∧ FrM h h')) := by
  obtain ⟨w, pst, bg, mn, lz, hA, ⟨m1, m2, m3, m4, m5⟩, ⟨⟨cs, s1⟩, ⟨ct, s2⟩, ⟨nx, s3⟩, ⟨fd, s4⟩, ⟨od, s5⟩⟩, hW, hP, hY⟩ := id hM
  refine CT.of (by decide) (Nat.le_of_ble_eq_true rfl) ?_
  refine g_al (al2 := [some (.ref (90)), some (.int (iI (cp))), none]) rfl ?_
  refine g_aload_n (q := 1) rfl rfl dX8_setCapacity_0 rfl ?_
  refine g_iconst (q := 2) dX8_setCapacity_1 rfl ?_
  refine g_put (q := 5) fX8_41 (by decide) hA (Nat.le_of_ble_eq_true rfl) (fun _ _ => rfl) (fun _ _ => rfl) dX8_setCapacity_2 rfl ?_
  refine hp_in (fun hh1 ehh1 => ?_)
  have fc2 : hh1 90 = cO 7 [.int (iI (0)), .ref (91), .ref (92), .int (iI (sv.length)), .ref (93), .ref (94), .ref (95), .ref (96), .ref (97), .ref (98), .ref (99), .ref (100)] := by rw [ehh1]; exact ueh_s
  have fc3 : hh1 91 = cI 272 w := by rw [ehh1, ueh_n (by decide)]; exact m1
  refine g_iload_n (q := 6) rfl rfl dX8_setCapacity_5 rfl ?_
  refine g_iconst (q := 7) dX8_setCapacity_6 rfl ?_
  refine g_bipush (q := 9) (by decide) dX8_setCapacity_7 rfl ?_
  have hM0 : MRep hh1 0 S sv := hM.thr fc2 (fun j hj => by rw [ehh1, ueh_n hj])
  have fr0 : ∀ j, j ≠ 90 → hh1 j = h j := fun j hj => by rw [ehh1, ueh_n hj]
  refine g_Sr (q := 12) (d' := 0) (av := [.int (iI (cp)), .int (iI (0)), .int (iI (8))]) (st := []) (v := .int (iI (0))) ksX8_45 (t_X8_in0 l hh1 (cp) (0) (8) hc ⟨by omega, by omega⟩ ⟨by omega, by omega⟩ (by omega)) rfl (Nat.le_of_ble_eq_true rfl) ⟨(Nat.le_of_ble_eq_true rfl), (Nat.le_of_ble_eq_true rfl)⟩ ⟨(Nat.le_of_ble_eq_true rfl), (Nat.le_of_ble_eq_true rfl)⟩ rfl rfl dX8_setCapacity_9 rfl ?_
  refine g_if_ne (t := 21) (q := 15) ⟨by omega, by omega⟩ dX8_setCapacity_12 rfl rfl (fun c12 => ?_) (fun c12 => ?_)
  · omega
  · refine g_aload_n (q := 16) rfl rfl dX8_setCapacity_15 rfl ?_
    refine g_iconst (q := 17) dX8_setCapacity_16 rfl ?_
    refine g_Vw (q := 20) (d' := 0) (i := 90) (av := [.int (iI (1))]) (st := []) kvX8_64 (t_X8_fails l hh1 0 S sv hM0 1) (by decide) fc2 rfl (Nat.le_of_ble_eq_true rfl) ⟨(Nat.le_of_ble_eq_true rfl), (Nat.le_of_ble_eq_true rfl)⟩ ⟨(Nat.le_of_ble_eq_true rfl), (Nat.le_of_ble_eq_true rfl)⟩ rfl rfl dX8_setCapacity_17 rfl (fun v hz hp => ?_)
    obtain ⟨rfl, p1, p2⟩ := hp
    exact g_ireturn (fun z => NN_f z) (Nat.le_of_ble_eq_true rfl) (Nat.le_of_ble_eq_true rfl) dX8_setCapacity_20 rfl (wP_in ⟨rfl, p1, fun j hj => (p2 j (by omega)).trans (fr0 j (by omega))⟩)
