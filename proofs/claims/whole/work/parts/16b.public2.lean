/-! ===== MonotonePostings: append, codeBit, bitsPerDocument ===== -/
set_option maxRecDepth 4000 in
theorem t_X7_appendRange (l : Launch) (h : EHp) (S : ASt) (sv : List ASt) (hC : CRep h S sv) (i : Nat) (hi : i < 4) (first step n : Int) (b1 : 0 ≤ first ∧ first ≤ 511) (b2 : 1 ≤ step ∧ step ≤ 511) (b3 : 1 ≤ n ∧ n ≤ 64) (b4 : first + step * (n - 1) ≤ 511) (b5 : dA (S.1 i).1 (S.1 i).2 ((S.1 i).1 - 1) < first) (b6 : (S.1 i).1 + n ≤ 64) : CT l mX7_appendRange 9 0 0 [.ref (0), .int (iI (i)), .int (iI (first)), .int (iI (step)), .int (iI (n))] NN h (wP (fun v h' => v = .int (iI ((S.1 i).1 + n)) ∧ CRep h' (wrL S i ((S.1 i).1 + n) (apF (S.1 i).1 (S.1 i).2 first step)) (push4 S sv) ∧ FrC h h')) := by
  obtain ⟨g0, k1, k2, k4, k5, -⟩ := id hC
  obtain ⟨m, ds, fa, hA, hag, hO, hFO⟩ := k5 i hi trivial
  have hOd := ag_LOk hag hO
  obtain ⟨o1, o2, o3, o4⟩ := id hO
  have em := hFO.pn
  have hm := hFO.1
  have dr := dA_rng hO ((S.1 i).1 - 1)
  obtain ⟨-, -, -, -, -, ⟨nx, hH⟩, -⟩ := id hC
  obtain ⟨T9, hG, -⟩ := id hH
  refine CT.of (by decide) (Nat.le_of_ble_eq_true rfl) ?_
  refine g_al (al2 := [some (.ref (0)), some (.int (iI (i))), some (.int (iI (first))), some (.int (iI (step))), some (.int (iI (n))), none, none]) rfl ?_
  refine g_aload_n (q := 1) rfl rfl dX7_appendRange_0 rfl ?_
  refine g_iload_n (q := 2) rfl rfl dX7_appendRange_1 rfl ?_
  refine g_Vr (q := 5) (d' := 8) (i := 0) (av := [.int (iI (i))]) (st := []) (v := .ref (5 + 3 * i)) kvX7_48 (t_X7_listAt l h S sv hC i hi) (by decide) g0 rfl (Nat.le_of_ble_eq_true rfl) ⟨(Nat.le_of_ble_eq_true rfl), (Nat.le_of_ble_eq_true rfl)⟩ ⟨(Nat.le_of_ble_eq_true rfl), (Nat.le_of_ble_eq_true rfl)⟩ rfl rfl dX7_appendRange_2 rfl ?_
  refine g_astore (q := 7) (al2 := [some (.ref (0)), some (.int (iI (i))), some (.int (iI (first))), some (.int (iI (step))), some (.int (iI (n))), some (.ref (5 + 3 * i)), none]) (by decide) rfl rfl dX7_appendRange_5 rfl ?_
  refine g_iload_n (q := 8) rfl rfl dX7_appendRange_7 rfl ?_
  refine g_iload_n (q := 9) rfl rfl dX7_appendRange_8 rfl ?_
  refine g_iload (q := 11) rfl dX7_appendRange_9 rfl ?_
  refine g_Sv (q := 14) (d' := 7) (av := [.int (iI (first)), .int (iI (step)), .int (iI (n))]) (st := []) ksX7_52 (t_X7_requireRange l h first step n b1 b2 b3 b4) rfl (Nat.le_of_ble_eq_true rfl) ⟨(Nat.le_of_ble_eq_true rfl), (Nat.le_of_ble_eq_true rfl)⟩ ⟨(Nat.le_of_ble_eq_true rfl), (Nat.le_of_ble_eq_true rfl)⟩ rfl rfl dX7_appendRange_11 rfl (fun hq1 eq2 => ?_)
  rw [eq2]
  refine g_iload_n (q := 15) rfl rfl dX7_appendRange_14 rfl ?_
  refine g_aload (q := 17) rfl dX7_appendRange_15 rfl ?_
  refine g_Vr (q := 20) (d' := 1) (i := 5 + 3 * i) (av := []) (st := [.int (iI (first))]) (v := .int (iI (dA (S.1 i).1 (S.1 i).2 ((S.1 i).1 - 1)))) kvX7_56 (by have := t_X4_lastDocument l h (5 + 3 * i) (S.1 i).1 m ds fa hA hOd; rw [ag_dA hag] at this; exact this) (by show _ < 103; omega) hA.1 rfl (Nat.le_of_ble_eq_true rfl) ⟨(Nat.le_of_ble_eq_true rfl), (Nat.le_of_ble_eq_true rfl)⟩ ⟨(Nat.le_of_ble_eq_true rfl), (Nat.le_of_ble_eq_true rfl)⟩ rfl rfl dX7_appendRange_17 rfl ?_
  refine g_icmp_gt (t := 33) (q := 23) ⟨by omega, by omega⟩ ⟨by omega, by omega⟩ dX7_appendRange_20 rfl rfl (fun c20 => ?_) (fun c20 => ?_)
  · refine g_aload (q := 35) rfl dX7_appendRange_33 rfl ?_
    refine g_get (q := 38) fX7_69r (by show _ < 103; omega) hA.1 rfl dX7_appendRange_35 rfl ?_
    refine g_iload (q := 40) rfl dX7_appendRange_38 rfl ?_
    refine g_iadd (q := 41) dX7_appendRange_40 rfl ?_
    refine g_bipush (q := 43) (by decide) dX7_appendRange_41 rfl ?_
    refine g_icmp_le (t := 56) (q := 46) ⟨by omega, by omega⟩ ⟨by omega, by omega⟩ dX7_appendRange_43 rfl rfl (fun c43 => ?_) (fun c43 => ?_)
    · refine g_aload_n (q := 57) rfl rfl dX7_appendRange_56 rfl ?_
      refine g_get (q := 60) fX7_19r (by decide) g0 rfl dX7_appendRange_57 rfl ?_
      refine g_aload_n (q := 61) rfl rfl dX7_appendRange_60 rfl ?_
      refine g_get (q := 64) fX7_12r (by decide) g0 rfl dX7_appendRange_61 rfl ?_
      refine g_Vv (q := 67) (d' := 3) (i := 17) (av := [.ref (1)]) (st := []) kvX7_78 (t_X2_save l h 17 nx 1 sv S hH (crep_SA hC) (by omega)) (by decide) hG rfl (Nat.le_of_ble_eq_true rfl) ⟨(Nat.le_of_ble_eq_true rfl), (Nat.le_of_ble_eq_true rfl)⟩ ⟨(Nat.le_of_ble_eq_true rfl), (Nat.le_of_ble_eq_true rfl)⟩ rfl rfl dX7_appendRange_64 rfl (fun h1 hsv => ?_)
      obtain ⟨sv1, sv2⟩ := hsv
      have hC1 : CRep h1 S (push4 S sv) := crep_sv hC sv1 sv2
      obtain ⟨n0, n1, n2, n4, n5, -⟩ := id hC1
      obtain ⟨m1, ds1, fa1, hA1, hag1, -, -⟩ := n5 i hi trivial
      refine g_iconst (q := 68) dX7_appendRange_67 rfl ?_
      refine g_istore (q := 70) (al2 := [some (.ref (0)), some (.int (iI (i))), some (.int (iI (first))), some (.int (iI (step))), some (.int (iI (n))), some (.ref (5 + 3 * i)), some (.int (iI (0)))]) (by decide) rfl rfl dX7_appendRange_68 rfl ?_
      refine loopG (σ := Int × EHp × (Int → Int)) (P := fun zz => match zz with | (k, h2, d2) => G l noX mX7_appendRange 9 0 0 (wP (fun v h' => v = .int (iI ((S.1 i).1 + n)) ∧ CRep h' (wrL S i ((S.1 i).1 + n) (apF (S.1 i).1 (S.1 i).2 first step)) (push4 S sv) ∧ FrC h h')) 0 0 70 [some (.ref (0)), some (.int (iI (i))), some (.int (iI (first))), some (.int (iI (step))), some (.int (iI (n))), some (.ref (5 + 3 * i)), some (.int (iI (k)))] [] NN h2) (I := fun zz => match zz with | (k, h2, d2) => 0 ≤ k ∧ k ≤ n ∧ PA h2 (5 + 3 * i) ((S.1 i).1 + k) m1 d2 fa1 ∧ Ag ((S.1 i).1 + k) d2 (apF (S.1 i).1 (S.1 i).2 first step) ∧ Fr3 h1 h2 (5 + 3 * i)) (fun zz => match zz with | (k, h2, d2) => (n - k).toNat) ?_ (0, h1, ds1) ⟨Int.le_refl 0, by omega, by rw [Int.add_zero]; exact hA1, fun j a b => by rw [hag1 j a (by omega)]; exact (if_pos (by omega)).symm, fun _ _ => rfl⟩
      rintro ⟨k, h2, d2⟩ hI ih
      obtain ⟨i0, i1, hA2, hag2, fr2⟩ := hI
      refine g_iload (q := 72) rfl dX7_appendRange_70 rfl ?_
      refine g_iload (q := 74) rfl dX7_appendRange_72 rfl ?_
      refine g_icmp_ge (t := 94) (q := 77) ⟨by omega, by omega⟩ ⟨by omega, by omega⟩ dX7_appendRange_74 rfl rfl (fun c74 => ?_) (fun c74 => ?_)
      · have ek : k = n := by omega
        subst ek
        have hC2 := crep_cm hi hC1 fr2
        obtain ⟨z0, -⟩ := id hC2
        refine g_aload_n (q := 95) rfl rfl dX7_appendRange_94 rfl ?_
        refine g_iload_n (q := 96) rfl rfl dX7_appendRange_95 rfl ?_
        refine g_Vv (q := 99) (d' := 4) (i := 0) (av := [.int (iI (i))]) (st := []) kvX7_86 (t_X7_recode l h2 S (push4 S sv) i hi ((S.1 i).1 + k) m1 d2 fa1 (apF (S.1 i).1 (S.1 i).2 first step) hC2 hA2 (apF_LOk hO b1.1 b2.1 b3.1 b4 b5 b6) hag2) (by decide) z0 rfl (Nat.le_of_ble_eq_true rfl) ⟨(Nat.le_of_ble_eq_true rfl), (Nat.le_of_ble_eq_true rfl)⟩ ⟨(Nat.le_of_ble_eq_true rfl), (Nat.le_of_ble_eq_true rfl)⟩ rfl rfl dX7_appendRange_96 rfl (fun h3 hp => ?_)
        obtain ⟨p1, p2⟩ := hp
        obtain ⟨-, -, -, -, y5, -⟩ := id p1
        obtain ⟨m3, ds3, fa3, hA3, -⟩ := y5 i hi trivial
        rw [wrL_s] at hA3
        refine g_aload (q := 101) rfl dX7_appendRange_99 rfl ?_
        refine g_get (q := 104) fX7_69r (by show _ < 103; omega) hA3.1 rfl dX7_appendRange_101 rfl ?_
        exact g_ireturn (fun z => NN_f z) (Nat.le_of_ble_eq_true rfl) (Nat.le_of_ble_eq_true rfl) dX7_appendRange_104 rfl (wP_in ⟨rfl, p1, fun j hj => (p2 j hj).trans ((fr2 j (by omega)).trans (sv2 j (by omega)))⟩)
      · refine g_aload (q := 79) rfl dX7_appendRange_77 rfl ?_
        refine g_iload_n (q := 80) rfl rfl dX7_appendRange_79 rfl ?_
        refine g_iload (q := 82) rfl dX7_appendRange_80 rfl ?_
        refine g_iload_n (q := 83) rfl rfl dX7_appendRange_82 rfl ?_
        refine g_imul (q := 84) dX7_appendRange_83 rfl ?_
        refine g_iadd (q := 85) dX7_appendRange_84 rfl ?_
        refine g_Vv (q := 88) (d' := 0) (i := 5 + 3 * i) (av := [.int (iI (first + (k * step)))]) (st := []) kvX7_82 (t_X4_push l h2 (5 + 3 * i) ((S.1 i).1 + k) m1 (first + k * step) d2 fa1 hA2 (by omega) (by omega)) (by show _ < 103; omega) hA2.1 rfl (Nat.le_of_ble_eq_true rfl) ⟨(Nat.le_of_ble_eq_true rfl), (Nat.le_of_ble_eq_true rfl)⟩ ⟨(Nat.le_of_ble_eq_true rfl), (Nat.le_of_ble_eq_true rfl)⟩ rfl rfl dX7_appendRange_85 rfl (fun h3 hp => ?_)
        obtain ⟨p1, p2⟩ := hp
        refine g_iinc (q := 91) (al2 := [some (.ref (0)), some (.int (iI (i))), some (.int (iI (first))), some (.int (iI (step))), some (.int (iI (n))), some (.ref (5 + 3 * i)), some (.int (iI (k + 1)))]) rfl (by decide) rfl rfl dX7_appendRange_88 rfl ?_
        refine g_goto (q := 70) dX7_appendRange_91 rfl ?_
        exact ih (k + 1, h3, _) ⟨by omega, by omega, by rw [← Int.add_assoc]; exact p1, fun j a b => by
            unfold ui
            by_cases e : j = (S.1 i).1 + k
            · rw [if_pos e, e]; unfold apF; rw [if_neg (by omega)]; congr 1; congr 1; omega
            · rw [if_neg e]; exact hag2 j a (by omega), fun j hj => (p2 j hj).trans (fr2 j hj)⟩ (by show (n - (k + 1)).toNat < (n - k).toNat; omega)
    · omega
  · omega
set_option maxRecDepth 4000 in
theorem x_X7_appendRange (l : Launch) (h : EHp) (S : ASt) (sv : List ASt) (hC : CRep h S sv) (i : Int) (hi : IR i) (h0 : i < 0 ∨ 4 ≤ i) (first step n : Int) : CT l mX7_appendRange 9 1 6 [.ref (0), .int (iI (i)), .int (iI (first)), .int (iI (step)), .int (iI (n))] NN h (xP eIO (fun h' => h' = h)) := by
  obtain ⟨g0, k1, k2, k4, k5, -⟩ := id hC
  refine CT.of (by decide) (Nat.le_of_ble_eq_true rfl) ?_
  refine g_al (al2 := [some (.ref (0)), some (.int (iI (i))), some (.int (iI (first))), some (.int (iI (step))), some (.int (iI (n))), none, none]) rfl ?_
  refine g_aload_n (q := 1) rfl rfl dX7_appendRange_0 rfl ?_
  refine g_iload_n (q := 2) rfl rfl dX7_appendRange_1 rfl ?_
  exact g_Vx (d' := 8) (i := 0) (av := [.int (iI (i))]) (st := []) kvX7_48 (x_X7_listAt l h i hi h0) (by decide) g0 rfl (Nat.le_of_ble_eq_true rfl) ⟨(Nat.le_of_ble_eq_true rfl), (Nat.le_of_ble_eq_true rfl)⟩ ⟨(Nat.le_of_ble_eq_true rfl), (Nat.le_of_ble_eq_true rfl)⟩ rfl rfl dX7_appendRange_2 (fun h2 z => xP_in z)
set_option maxRecDepth 4000 in
theorem x2_X7_appendRange (l : Launch) (h : EHp) (S : ASt) (sv : List ASt) (hC : CRep h S sv) (i : Nat) (hi : i < 4) (first step n : Int) (hf : IR first) (hs : IR step) (hn : IR n) (hx : ¬ ((0 ≤ first ∧ first ≤ 511) ∧ (1 ≤ step ∧ step ≤ 511) ∧ (1 ≤ n ∧ n ≤ 64) ∧ first + step * (n - 1) ≤ 511)) : CT l mX7_appendRange 9 1 6 [.ref (0), .int (iI (i)), .int (iI (first)), .int (iI (step)), .int (iI (n))] NN h (xP eIA (fun h' => h' = h)) := by
  obtain ⟨g0, k1, k2, k4, k5, -⟩ := id hC
  obtain ⟨m, ds, fa, hA, hag, hO, hFO⟩ := k5 i hi trivial
  have hOd := ag_LOk hag hO
  obtain ⟨o1, o2, o3, o4⟩ := id hO
  have em := hFO.pn
  have hm := hFO.1
  refine CT.of (by decide) (Nat.le_of_ble_eq_true rfl) ?_
  refine g_al (al2 := [some (.ref (0)), some (.int (iI (i))), some (.int (iI (first))), some (.int (iI (step))), some (.int (iI (n))), none, none]) rfl ?_
  refine g_aload_n (q := 1) rfl rfl dX7_appendRange_0 rfl ?_
  refine g_iload_n (q := 2) rfl rfl dX7_appendRange_1 rfl ?_
  refine g_Vr (q := 5) (d' := 8) (i := 0) (av := [.int (iI (i))]) (st := []) (v := .ref (5 + 3 * i)) kvX7_48 (t_X7_listAt l h S sv hC i hi) (by decide) g0 rfl (Nat.le_of_ble_eq_true rfl) ⟨(Nat.le_of_ble_eq_true rfl), (Nat.le_of_ble_eq_true rfl)⟩ ⟨(Nat.le_of_ble_eq_true rfl), (Nat.le_of_ble_eq_true rfl)⟩ rfl rfl dX7_appendRange_2 rfl ?_
  refine g_astore (q := 7) (al2 := [some (.ref (0)), some (.int (iI (i))), some (.int (iI (first))), some (.int (iI (step))), some (.int (iI (n))), some (.ref (5 + 3 * i)), none]) (by decide) rfl rfl dX7_appendRange_5 rfl ?_
  refine g_iload_n (q := 8) rfl rfl dX7_appendRange_7 rfl ?_
  refine g_iload_n (q := 9) rfl rfl dX7_appendRange_8 rfl ?_
  refine g_iload (q := 11) rfl dX7_appendRange_9 rfl ?_
  exact g_Sx (d' := 7) (av := [.int (iI (first)), .int (iI (step)), .int (iI (n))]) (st := []) ksX7_52 (x_X7_requireRange l h first step n hf hs hn hx) rfl (Nat.le_of_ble_eq_true rfl) ⟨(Nat.le_of_ble_eq_true rfl), (Nat.le_of_ble_eq_true rfl)⟩ ⟨(Nat.le_of_ble_eq_true rfl), (Nat.le_of_ble_eq_true rfl)⟩ rfl rfl dX7_appendRange_11 (fun h2 z => xP_in z)
set_option maxRecDepth 4000 in
theorem x3_X7_appendRange (l : Launch) (h : EHp) (S : ASt) (sv : List ASt) (hC : CRep h S sv) (i : Nat) (hi : i < 4) (first step n : Int) (b1 : 0 ≤ first ∧ first ≤ 511) (b2 : 1 ≤ step ∧ step ≤ 511) (b3 : 1 ≤ n ∧ n ≤ 64) (b4 : first + step * (n - 1) ≤ 511) (b5 : ¬ dA (S.1 i).1 (S.1 i).2 ((S.1 i).1 - 1) < first) : CT l mX7_appendRange 9 1 6 [.ref (0), .int (iI (i)), .int (iI (first)), .int (iI (step)), .int (iI (n))] NN h (xP eIA (fun h' => h' = h)) := by
  obtain ⟨g0, k1, k2, k4, k5, -⟩ := id hC
  obtain ⟨m, ds, fa, hA, hag, hO, hFO⟩ := k5 i hi trivial
  have hOd := ag_LOk hag hO
  obtain ⟨o1, o2, o3, o4⟩ := id hO
  have em := hFO.pn
  have hm := hFO.1
  have dr := dA_rng hO ((S.1 i).1 - 1)
  refine CT.of (by decide) (Nat.le_of_ble_eq_true rfl) ?_
  refine g_al (al2 := [some (.ref (0)), some (.int (iI (i))), some (.int (iI (first))), some (.int (iI (step))), some (.int (iI (n))), none, none]) rfl ?_
  refine g_aload_n (q := 1) rfl rfl dX7_appendRange_0 rfl ?_
  refine g_iload_n (q := 2) rfl rfl dX7_appendRange_1 rfl ?_
  refine g_Vr (q := 5) (d' := 8) (i := 0) (av := [.int (iI (i))]) (st := []) (v := .ref (5 + 3 * i)) kvX7_48 (t_X7_listAt l h S sv hC i hi) (by decide) g0 rfl (Nat.le_of_ble_eq_true rfl) ⟨(Nat.le_of_ble_eq_true rfl), (Nat.le_of_ble_eq_true rfl)⟩ ⟨(Nat.le_of_ble_eq_true rfl), (Nat.le_of_ble_eq_true rfl)⟩ rfl rfl dX7_appendRange_2 rfl ?_
  refine g_astore (q := 7) (al2 := [some (.ref (0)), some (.int (iI (i))), some (.int (iI (first))), some (.int (iI (step))), some (.int (iI (n))), some (.ref (5 + 3 * i)), none]) (by decide) rfl rfl dX7_appendRange_5 rfl ?_
  refine g_iload_n (q := 8) rfl rfl dX7_appendRange_7 rfl ?_
  refine g_iload_n (q := 9) rfl rfl dX7_appendRange_8 rfl ?_
  refine g_iload (q := 11) rfl dX7_appendRange_9 rfl ?_
  refine g_Sv (q := 14) (d' := 7) (av := [.int (iI (first)), .int (iI (step)), .int (iI (n))]) (st := []) ksX7_52 (t_X7_requireRange l h first step n b1 b2 b3 b4) rfl (Nat.le_of_ble_eq_true rfl) ⟨(Nat.le_of_ble_eq_true rfl), (Nat.le_of_ble_eq_true rfl)⟩ ⟨(Nat.le_of_ble_eq_true rfl), (Nat.le_of_ble_eq_true rfl)⟩ rfl rfl dX7_appendRange_11 rfl (fun hq1 eq2 => ?_)
  rw [eq2]
  refine g_iload_n (q := 15) rfl rfl dX7_appendRange_14 rfl ?_
  refine g_aload (q := 17) rfl dX7_appendRange_15 rfl ?_
  refine g_Vr (q := 20) (d' := 1) (i := 5 + 3 * i) (av := []) (st := [.int (iI (first))]) (v := .int (iI (dA (S.1 i).1 (S.1 i).2 ((S.1 i).1 - 1)))) kvX7_56 (by have := t_X4_lastDocument l h (5 + 3 * i) (S.1 i).1 m ds fa hA hOd; rw [ag_dA hag] at this; exact this) (by show _ < 103; omega) hA.1 rfl (Nat.le_of_ble_eq_true rfl) ⟨(Nat.le_of_ble_eq_true rfl), (Nat.le_of_ble_eq_true rfl)⟩ ⟨(Nat.le_of_ble_eq_true rfl), (Nat.le_of_ble_eq_true rfl)⟩ rfl rfl dX7_appendRange_17 rfl ?_
  refine g_icmp_gt (t := 33) (q := 23) ⟨by omega, by omega⟩ ⟨by omega, by omega⟩ dX7_appendRange_20 rfl rfl (fun c20 => ?_) (fun c20 => ?_)
  · omega
  · exact g_throw th_IA2 rfl rfl rfl (xP_in rfl) (Nat.le_of_ble_eq_true rfl) (Nat.le_of_ble_eq_true rfl) (Nat.le_of_ble_eq_true rfl) (Nat.le_of_ble_eq_true rfl) dX7_appendRange_23 dX7_appendRange_26 dX7_appendRange_27 dX7_appendRange_29 dX7_appendRange_32
set_option maxRecDepth 4000 in
theorem x4_X7_appendRange (l : Launch) (h : EHp) (S : ASt) (sv : List ASt) (hC : CRep h S sv) (i : Nat) (hi : i < 4) (first step n : Int) (b1 : 0 ≤ first ∧ first ≤ 511) (b2 : 1 ≤ step ∧ step ≤ 511) (b3 : 1 ≤ n ∧ n ≤ 64) (b4 : first + step * (n - 1) ≤ 511) (b5 : dA (S.1 i).1 (S.1 i).2 ((S.1 i).1 - 1) < first) (b6 : 64 < (S.1 i).1 + n) : CT l mX7_appendRange 9 1 6 [.ref (0), .int (iI (i)), .int (iI (first)), .int (iI (step)), .int (iI (n))] NN h (xP eIS (fun h' => h' = h)) := by
  obtain ⟨g0, k1, k2, k4, k5, -⟩ := id hC
  obtain ⟨m, ds, fa, hA, hag, hO, hFO⟩ := k5 i hi trivial
  have hOd := ag_LOk hag hO
  obtain ⟨o1, o2, o3, o4⟩ := id hO
  have em := hFO.pn
  have hm := hFO.1
  have dr := dA_rng hO ((S.1 i).1 - 1)
  refine CT.of (by decide) (Nat.le_of_ble_eq_true rfl) ?_
  refine g_al (al2 := [some (.ref (0)), some (.int (iI (i))), some (.int (iI (first))), some (.int (iI (step))), some (.int (iI (n))), none, none]) rfl ?_
  refine g_aload_n (q := 1) rfl rfl dX7_appendRange_0 rfl ?_
  refine g_iload_n (q := 2) rfl rfl dX7_appendRange_1 rfl ?_
  refine g_Vr (q := 5) (d' := 8) (i := 0) (av := [.int (iI (i))]) (st := []) (v := .ref (5 + 3 * i)) kvX7_48 (t_X7_listAt l h S sv hC i hi) (by decide) g0 rfl (Nat.le_of_ble_eq_true rfl) ⟨(Nat.le_of_ble_eq_true rfl), (Nat.le_of_ble_eq_true rfl)⟩ ⟨(Nat.le_of_ble_eq_true rfl), (Nat.le_of_ble_eq_true rfl)⟩ rfl rfl dX7_appendRange_2 rfl ?_
  refine g_astore (q := 7) (al2 := [some (.ref (0)), some (.int (iI (i))), some (.int (iI (first))), some (.int (iI (step))), some (.int (iI (n))), some (.ref (5 + 3 * i)), none]) (by decide) rfl rfl dX7_appendRange_5 rfl ?_
  refine g_iload_n (q := 8) rfl rfl dX7_appendRange_7 rfl ?_
  refine g_iload_n (q := 9) rfl rfl dX7_appendRange_8 rfl ?_
  refine g_iload (q := 11) rfl dX7_appendRange_9 rfl ?_
  refine g_Sv (q := 14) (d' := 7) (av := [.int (iI (first)), .int (iI (step)), .int (iI (n))]) (st := []) ksX7_52 (t_X7_requireRange l h first step n b1 b2 b3 b4) rfl (Nat.le_of_ble_eq_true rfl) ⟨(Nat.le_of_ble_eq_true rfl), (Nat.le_of_ble_eq_true rfl)⟩ ⟨(Nat.le_of_ble_eq_true rfl), (Nat.le_of_ble_eq_true rfl)⟩ rfl rfl dX7_appendRange_11 rfl (fun hq1 eq2 => ?_)
  rw [eq2]
  refine g_iload_n (q := 15) rfl rfl dX7_appendRange_14 rfl ?_
  refine g_aload (q := 17) rfl dX7_appendRange_15 rfl ?_
  refine g_Vr (q := 20) (d' := 1) (i := 5 + 3 * i) (av := []) (st := [.int (iI (first))]) (v := .int (iI (dA (S.1 i).1 (S.1 i).2 ((S.1 i).1 - 1)))) kvX7_56 (by have := t_X4_lastDocument l h (5 + 3 * i) (S.1 i).1 m ds fa hA hOd; rw [ag_dA hag] at this; exact this) (by show _ < 103; omega) hA.1 rfl (Nat.le_of_ble_eq_true rfl) ⟨(Nat.le_of_ble_eq_true rfl), (Nat.le_of_ble_eq_true rfl)⟩ ⟨(Nat.le_of_ble_eq_true rfl), (Nat.le_of_ble_eq_true rfl)⟩ rfl rfl dX7_appendRange_17 rfl ?_
  refine g_icmp_gt (t := 33) (q := 23) ⟨by omega, by omega⟩ ⟨by omega, by omega⟩ dX7_appendRange_20 rfl rfl (fun c20 => ?_) (fun c20 => ?_)
  · refine g_aload (q := 35) rfl dX7_appendRange_33 rfl ?_
    refine g_get (q := 38) fX7_69r (by show _ < 103; omega) hA.1 rfl dX7_appendRange_35 rfl ?_
    refine g_iload (q := 40) rfl dX7_appendRange_38 rfl ?_
    refine g_iadd (q := 41) dX7_appendRange_40 rfl ?_
    refine g_bipush (q := 43) (by decide) dX7_appendRange_41 rfl ?_
    refine g_icmp_le (t := 56) (q := 46) ⟨by omega, by omega⟩ ⟨by omega, by omega⟩ dX7_appendRange_43 rfl rfl (fun c43 => ?_) (fun c43 => ?_)
    · omega
    · exact g_throw th_IS1 rfl rfl rfl (xP_in rfl) (Nat.le_of_ble_eq_true rfl) (Nat.le_of_ble_eq_true rfl) (Nat.le_of_ble_eq_true rfl) (Nat.le_of_ble_eq_true rfl) dX7_appendRange_46 dX7_appendRange_49 dX7_appendRange_50 dX7_appendRange_52 dX7_appendRange_55
  · omega
set_option maxRecDepth 4000 in
theorem t_X7_append (l : Launch) (h : EHp) (S : ASt) (sv : List ASt) (hC : CRep h S sv) (i : Nat) (hi : i < 4) (first : Int) (b1 : 0 ≤ first ∧ first ≤ 511) (b5 : dA (S.1 i).1 (S.1 i).2 ((S.1 i).1 - 1) < first) (b6 : (S.1 i).1 + 1 ≤ 64) : CT l mX7_append 10 0 0 [.ref (0), .int (iI (i)), .int (iI (first))] NN h (wP (fun v h' => v = .int (iI ((S.1 i).1 + 1)) ∧ CRep h' (wrL S i ((S.1 i).1 + 1) (apF (S.1 i).1 (S.1 i).2 first 1)) (push4 S sv) ∧ FrC h h')) := by
  obtain ⟨g0, k1, k2, k4, k5, -⟩ := id hC
  obtain ⟨m, ds, fa, hA, hag, hO, hFO⟩ := k5 i hi trivial
  have hOd := ag_LOk hag hO
  obtain ⟨o1, o2, o3, o4⟩ := id hO
  have em := hFO.pn
  have hm := hFO.1
  refine CT.of (by decide) (Nat.le_of_ble_eq_true rfl) ?_
  refine g_al (al2 := [some (.ref (0)), some (.int (iI (i))), some (.int (iI (first)))]) rfl ?_
  refine g_aload_n (q := 1) rfl rfl dX7_append_0 rfl ?_
  refine g_iload_n (q := 2) rfl rfl dX7_append_1 rfl ?_
  refine g_iload_n (q := 3) rfl rfl dX7_append_2 rfl ?_
  refine g_iconst (q := 4) dX7_append_3 rfl ?_
  refine g_iconst (q := 5) dX7_append_4 rfl ?_
  refine g_Vw (q := 8) (d' := 9) (i := 0) (av := [.int (iI (i)), .int (iI (first)), .int (iI (1)), .int (iI (1))]) (st := []) kvX7_44 (t_X7_appendRange l h S sv hC i hi first 1 1 b1 (by decide) (by decide) (by omega) b5 b6) (by decide) g0 rfl (Nat.le_of_ble_eq_true rfl) ⟨(Nat.le_of_ble_eq_true rfl), (Nat.le_of_ble_eq_true rfl)⟩ ⟨(Nat.le_of_ble_eq_true rfl), (Nat.le_of_ble_eq_true rfl)⟩ rfl rfl dX7_append_5 rfl (fun v h9 hp => ?_)
  obtain ⟨rfl, p1, p2⟩ := hp
  exact g_ireturn (fun z => NN_f z) (Nat.le_of_ble_eq_true rfl) (Nat.le_of_ble_eq_true rfl) dX7_append_8 rfl (wP_in ⟨rfl, p1, p2⟩)
set_option maxRecDepth 4000 in
theorem x_X7_append (l : Launch) (h : EHp) (S : ASt) (sv : List ASt) (hC : CRep h S sv) (i : Int) (hi : IR i) (h0 : i < 0 ∨ 4 ≤ i) (first : Int) : CT l mX7_append 10 1 6 [.ref (0), .int (iI (i)), .int (iI (first))] NN h (xP eIO (fun h' => h' = h)) := by
  obtain ⟨g0, k1, k2, k4, k5, -⟩ := id hC
  refine CT.of (by decide) (Nat.le_of_ble_eq_true rfl) ?_
  refine g_al (al2 := [some (.ref (0)), some (.int (iI (i))), some (.int (iI (first)))]) rfl ?_
  refine g_aload_n (q := 1) rfl rfl dX7_append_0 rfl ?_
  refine g_iload_n (q := 2) rfl rfl dX7_append_1 rfl ?_
  refine g_iload_n (q := 3) rfl rfl dX7_append_2 rfl ?_
  refine g_iconst (q := 4) dX7_append_3 rfl ?_
  refine g_iconst (q := 5) dX7_append_4 rfl ?_
  exact g_Vx (d' := 9) (i := 0) (av := [.int (iI (i)), .int (iI (first)), .int (iI (1)), .int (iI (1))]) (st := []) kvX7_44 (x_X7_appendRange l h S sv hC i hi h0 first 1 1) (by decide) g0 rfl (Nat.le_of_ble_eq_true rfl) ⟨(Nat.le_of_ble_eq_true rfl), (Nat.le_of_ble_eq_true rfl)⟩ ⟨(Nat.le_of_ble_eq_true rfl), (Nat.le_of_ble_eq_true rfl)⟩ rfl rfl dX7_append_5 (fun h2 z => xP_in z)
set_option maxRecDepth 4000 in
theorem x2_X7_append (l : Launch) (h : EHp) (S : ASt) (sv : List ASt) (hC : CRep h S sv) (i : Nat) (hi : i < 4) (first : Int) (hf : IR first) (hx : first < 0 ∨ 511 < first) : CT l mX7_append 10 1 6 [.ref (0), .int (iI (i)), .int (iI (first))] NN h (xP eIA (fun h' => h' = h)) := by
  obtain ⟨g0, k1, k2, k4, k5, -⟩ := id hC
  refine CT.of (by decide) (Nat.le_of_ble_eq_true rfl) ?_
  refine g_al (al2 := [some (.ref (0)), some (.int (iI (i))), some (.int (iI (first)))]) rfl ?_
  refine g_aload_n (q := 1) rfl rfl dX7_append_0 rfl ?_
  refine g_iload_n (q := 2) rfl rfl dX7_append_1 rfl ?_
  refine g_iload_n (q := 3) rfl rfl dX7_append_2 rfl ?_
  refine g_iconst (q := 4) dX7_append_3 rfl ?_
  refine g_iconst (q := 5) dX7_append_4 rfl ?_
  exact g_Vx (d' := 9) (i := 0) (av := [.int (iI (i)), .int (iI (first)), .int (iI (1)), .int (iI (1))]) (st := []) kvX7_44 (x2_X7_appendRange l h S sv hC i hi first 1 1 hf (by decide) (by decide) (by omega)) (by decide) g0 rfl (Nat.le_of_ble_eq_true rfl) ⟨(Nat.le_of_ble_eq_true rfl), (Nat.le_of_ble_eq_true rfl)⟩ ⟨(Nat.le_of_ble_eq_true rfl), (Nat.le_of_ble_eq_true rfl)⟩ rfl rfl dX7_append_5 (fun h2 z => xP_in z)
set_option maxRecDepth 4000 in
theorem x3_X7_append (l : Launch) (h : EHp) (S : ASt) (sv : List ASt) (hC : CRep h S sv) (i : Nat) (hi : i < 4) (first : Int) (b1 : 0 ≤ first ∧ first ≤ 511) (b5 : ¬ dA (S.1 i).1 (S.1 i).2 ((S.1 i).1 - 1) < first) : CT l mX7_append 10 1 6 [.ref (0), .int (iI (i)), .int (iI (first))] NN h (xP eIA (fun h' => h' = h)) := by
  obtain ⟨g0, k1, k2, k4, k5, -⟩ := id hC
  refine CT.of (by decide) (Nat.le_of_ble_eq_true rfl) ?_
  refine g_al (al2 := [some (.ref (0)), some (.int (iI (i))), some (.int (iI (first)))]) rfl ?_
  refine g_aload_n (q := 1) rfl rfl dX7_append_0 rfl ?_
  refine g_iload_n (q := 2) rfl rfl dX7_append_1 rfl ?_
  refine g_iload_n (q := 3) rfl rfl dX7_append_2 rfl ?_
  refine g_iconst (q := 4) dX7_append_3 rfl ?_
  refine g_iconst (q := 5) dX7_append_4 rfl ?_
  exact g_Vx (d' := 9) (i := 0) (av := [.int (iI (i)), .int (iI (first)), .int (iI (1)), .int (iI (1))]) (st := []) kvX7_44 (x3_X7_appendRange l h S sv hC i hi first 1 1 b1 (by decide) (by decide) (by omega) b5) (by decide) g0 rfl (Nat.le_of_ble_eq_true rfl) ⟨(Nat.le_of_ble_eq_true rfl), (Nat.le_of_ble_eq_true rfl)⟩ ⟨(Nat.le_of_ble_eq_true rfl), (Nat.le_of_ble_eq_true rfl)⟩ rfl rfl dX7_append_5 (fun h2 z => xP_in z)
set_option maxRecDepth 4000 in
theorem x4_X7_append (l : Launch) (h : EHp) (S : ASt) (sv : List ASt) (hC : CRep h S sv) (i : Nat) (hi : i < 4) (first : Int) (b1 : 0 ≤ first ∧ first ≤ 511) (b5 : dA (S.1 i).1 (S.1 i).2 ((S.1 i).1 - 1) < first) (b6 : 64 < (S.1 i).1 + 1) : CT l mX7_append 10 1 6 [.ref (0), .int (iI (i)), .int (iI (first))] NN h (xP eIS (fun h' => h' = h)) := by
  obtain ⟨g0, k1, k2, k4, k5, -⟩ := id hC
  refine CT.of (by decide) (Nat.le_of_ble_eq_true rfl) ?_
  refine g_al (al2 := [some (.ref (0)), some (.int (iI (i))), some (.int (iI (first)))]) rfl ?_
  refine g_aload_n (q := 1) rfl rfl dX7_append_0 rfl ?_
  refine g_iload_n (q := 2) rfl rfl dX7_append_1 rfl ?_
  refine g_iload_n (q := 3) rfl rfl dX7_append_2 rfl ?_
  refine g_iconst (q := 4) dX7_append_3 rfl ?_
  refine g_iconst (q := 5) dX7_append_4 rfl ?_
  exact g_Vx (d' := 9) (i := 0) (av := [.int (iI (i)), .int (iI (first)), .int (iI (1)), .int (iI (1))]) (st := []) kvX7_44 (x4_X7_appendRange l h S sv hC i hi first 1 1 b1 (by decide) (by decide) (by omega) b5 b6) (by decide) g0 rfl (Nat.le_of_ble_eq_true rfl) ⟨(Nat.le_of_ble_eq_true rfl), (Nat.le_of_ble_eq_true rfl)⟩ ⟨(Nat.le_of_ble_eq_true rfl), (Nat.le_of_ble_eq_true rfl)⟩ rfl rfl dX7_append_5 (fun h2 z => xP_in z)
set_option maxRecDepth 4000 in
theorem t_X7_codeBit (l : Launch) (h : EHp) (S : ASt) (sv : List ASt) (hC : CRep h S sv) (i : Nat) (hi : i < 4) (j : Int) (j0 : 0 ≤ j) (j1 : j < szP (S.1 i).1 (S.1 i).2 (pn (S.1 i).1 (S.1 i).2)) : CT l mX7_codeBit 9 0 0 [.ref (0), .int (iI (i)), .int (iI (j))] NN h (wP (fun v h' => v = .int (iI (cbit (S.1 i).1 (S.1 i).2 j)) ∧ CRep h' S sv ∧ FrC h h')) := by
  obtain ⟨g0, k1, k2, k4, k5, -⟩ := id hC
  obtain ⟨m, ds, fa, hA, hag, hO, hFO⟩ := k5 i hi trivial
  have hOd := ag_LOk hag hO
  obtain ⟨o1, o2, o3, o4⟩ := id hO
  have em := hFO.pn
  have hm := hFO.1
  have hsz := szP_le hO hFO.2.1 (Nat.le_refl m)
  rw [em] at hsz
  obtain ⟨-, -, -, -, -, -, -, ⟨cl, cbs, hR0⟩, -⟩ := id hC
  refine CT.of (by decide) (Nat.le_of_ble_eq_true rfl) ?_
  refine g_al (al2 := [some (.ref (0)), some (.int (iI (i))), some (.int (iI (j))), none]) rfl ?_
  refine g_aload_n (q := 1) rfl rfl dX7_codeBit_0 rfl ?_
  refine g_iload_n (q := 2) rfl rfl dX7_codeBit_1 rfl ?_
  refine g_Vr (q := 5) (d' := 8) (i := 0) (av := [.int (iI (i))]) (st := []) (v := .ref (5 + 3 * i)) kvX7_48 (t_X7_listAt l h S sv hC i hi) (by decide) g0 rfl (Nat.le_of_ble_eq_true rfl) ⟨(Nat.le_of_ble_eq_true rfl), (Nat.le_of_ble_eq_true rfl)⟩ ⟨(Nat.le_of_ble_eq_true rfl), (Nat.le_of_ble_eq_true rfl)⟩ rfl rfl dX7_codeBit_2 rfl ?_
  refine g_astore_n (q := 6) (al2 := [some (.ref (0)), some (.int (iI (i))), some (.int (iI (j))), some (.ref (5 + 3 * i))]) rfl (by decide) rfl rfl dX7_codeBit_5 rfl ?_
  refine g_iload_n (q := 7) rfl rfl dX7_codeBit_6 rfl ?_
  refine g_aload_n (q := 8) rfl rfl dX7_codeBit_7 rfl ?_
  refine g_Vr (q := 11) (d' := 1) (i := 5 + 3 * i) (av := []) (st := [.int (iI (j))]) (v := .int (iI (szP (S.1 i).1 (S.1 i).2 (pn (S.1 i).1 (S.1 i).2)))) kvX7_113 (by have := t_X4_codeSize l h (5 + 3 * i) (S.1 i).1 m ds fa hA (by omega); rw [szS_szP hFO m (Nat.le_refl _), em] at this; exact this) (by show _ < 103; omega) hA.1 rfl (Nat.le_of_ble_eq_true rfl) ⟨(Nat.le_of_ble_eq_true rfl), (Nat.le_of_ble_eq_true rfl)⟩ ⟨(Nat.le_of_ble_eq_true rfl), (Nat.le_of_ble_eq_true rfl)⟩ rfl rfl dX7_codeBit_8 rfl ?_
  refine g_Sv (q := 14) (d' := 6) (av := [.int (iI (j)), .int (iI (szP (S.1 i).1 (S.1 i).2 (pn (S.1 i).1 (S.1 i).2)))]) (st := []) ksX7_93 (t_X7_requireIndex l h j (szP (S.1 i).1 (S.1 i).2 (pn (S.1 i).1 (S.1 i).2)) ⟨by omega, by omega⟩ ⟨by omega, by omega⟩ j0 j1) rfl (Nat.le_of_ble_eq_true rfl) ⟨(Nat.le_of_ble_eq_true rfl), (Nat.le_of_ble_eq_true rfl)⟩ ⟨(Nat.le_of_ble_eq_true rfl), (Nat.le_of_ble_eq_true rfl)⟩ rfl rfl dX7_codeBit_11 rfl (fun hq1 eq2 => ?_)
  rw [eq2]
  refine g_aload_n (q := 15) rfl rfl dX7_codeBit_14 rfl ?_
  refine g_get (q := 18) fX7_33r (by decide) g0 rfl dX7_codeBit_15 rfl ?_
  refine g_aload_n (q := 19) rfl rfl dX7_codeBit_18 rfl ?_
  refine g_Vv (q := 22) (d' := 3) (i := 86) (av := [.ref (5 + 3 * i)]) (st := []) kvX7_116 (t_X1_write l h 86 cl cbs hR0 (5 + 3 * i) (S.1 i).1 m ds fa hA hOd (ag_FOk hag hO hFO) (by omega)) (by decide) hR0.1 rfl (Nat.le_of_ble_eq_true rfl) ⟨(Nat.le_of_ble_eq_true rfl), (Nat.le_of_ble_eq_true rfl)⟩ ⟨(Nat.le_of_ble_eq_true rfl), (Nat.le_of_ble_eq_true rfl)⟩ rfl rfl dX7_codeBit_19 rfl (fun h1 hp => ?_)
  obtain ⟨bs1, p1, p2, p3⟩ := hp
  have p4 := ag_BOk hag hO hFO.2.1 p2
  rw [em] at p4
  have ez : szP (S.1 i).1 ds m = szP (S.1 i).1 (S.1 i).2 (pn (S.1 i).1 (S.1 i).2) := by rw [ag_szP hag hO hFO.2.1 m (Nat.le_refl _), em]
  rw [ez] at p1
  have e0 : h1 0 = _ := (p3 0 (by omega) (by omega)).trans g0
  refine g_aload_n (q := 23) rfl rfl dX7_codeBit_22 rfl ?_
  refine g_get (q := 26) fX7_33r (by decide) e0 rfl dX7_codeBit_23 rfl ?_
  refine g_iload_n (q := 27) rfl rfl dX7_codeBit_26 rfl ?_
  refine g_Vr (q := 30) (d' := 0) (i := 86) (av := [.int (iI (j))]) (st := []) (v := .int (iI (cbit (S.1 i).1 (S.1 i).2 j))) kvX7_120 (by have := t_X1_bitAt l h1 86 (szP (S.1 i).1 (S.1 i).2 (pn (S.1 i).1 (S.1 i).2)) bs1 p1 j j0 j1 hsz.2; rw [p4.bit j0 j1] at this; exact this) (by decide) p1.1 rfl (Nat.le_of_ble_eq_true rfl) ⟨(Nat.le_of_ble_eq_true rfl), (Nat.le_of_ble_eq_true rfl)⟩ ⟨(Nat.le_of_ble_eq_true rfl), (Nat.le_of_ble_eq_true rfl)⟩ rfl rfl dX7_codeBit_27 rfl ?_
  exact g_ireturn (fun z => NN_f z) (Nat.le_of_ble_eq_true rfl) (Nat.le_of_ble_eq_true rfl) dX7_codeBit_30 rfl (wP_in ⟨rfl, crep_code hC p1 p3, fun j hj => p3 j (by omega) (by omega)⟩)
set_option maxRecDepth 4000 in
theorem x_X7_codeBit (l : Launch) (h : EHp) (S : ASt) (sv : List ASt) (hC : CRep h S sv) (i : Int) (hi : IR i) (h0 : i < 0 ∨ 4 ≤ i) (j : Int) : CT l mX7_codeBit 9 1 6 [.ref (0), .int (iI (i)), .int (iI (j))] NN h (xP eIO (fun h' => h' = h)) := by
  obtain ⟨g0, k1, k2, k4, k5, -⟩ := id hC
  refine CT.of (by decide) (Nat.le_of_ble_eq_true rfl) ?_
  refine g_al (al2 := [some (.ref (0)), some (.int (iI (i))), some (.int (iI (j))), none]) rfl ?_
  refine g_aload_n (q := 1) rfl rfl dX7_codeBit_0 rfl ?_
  refine g_iload_n (q := 2) rfl rfl dX7_codeBit_1 rfl ?_
  exact g_Vx (d' := 8) (i := 0) (av := [.int (iI (i))]) (st := []) kvX7_48 (x_X7_listAt l h i hi h0) (by decide) g0 rfl (Nat.le_of_ble_eq_true rfl) ⟨(Nat.le_of_ble_eq_true rfl), (Nat.le_of_ble_eq_true rfl)⟩ ⟨(Nat.le_of_ble_eq_true rfl), (Nat.le_of_ble_eq_true rfl)⟩ rfl rfl dX7_codeBit_2 (fun h2 z => xP_in z)
set_option maxRecDepth 4000 in
theorem x2_X7_codeBit (l : Launch) (h : EHp) (S : ASt) (sv : List ASt) (hC : CRep h S sv) (i : Nat) (hi : i < 4) (j : Int) (hj : IR j) (hx : j < 0 ∨ szP (S.1 i).1 (S.1 i).2 (pn (S.1 i).1 (S.1 i).2) ≤ j) : CT l mX7_codeBit 9 1 6 [.ref (0), .int (iI (i)), .int (iI (j))] NN h (xP eIO (fun h' => h' = h)) := by
  obtain ⟨g0, k1, k2, k4, k5, -⟩ := id hC
  obtain ⟨m, ds, fa, hA, hag, hO, hFO⟩ := k5 i hi trivial
  have hOd := ag_LOk hag hO
  obtain ⟨o1, o2, o3, o4⟩ := id hO
  have em := hFO.pn
  have hm := hFO.1
  have hsz := szP_le hO hFO.2.1 (Nat.le_refl m)
  rw [em] at hsz
  refine CT.of (by decide) (Nat.le_of_ble_eq_true rfl) ?_
  refine g_al (al2 := [some (.ref (0)), some (.int (iI (i))), some (.int (iI (j))), none]) rfl ?_
  refine g_aload_n (q := 1) rfl rfl dX7_codeBit_0 rfl ?_
  refine g_iload_n (q := 2) rfl rfl dX7_codeBit_1 rfl ?_
  refine g_Vr (q := 5) (d' := 8) (i := 0) (av := [.int (iI (i))]) (st := []) (v := .ref (5 + 3 * i)) kvX7_48 (t_X7_listAt l h S sv hC i hi) (by decide) g0 rfl (Nat.le_of_ble_eq_true rfl) ⟨(Nat.le_of_ble_eq_true rfl), (Nat.le_of_ble_eq_true rfl)⟩ ⟨(Nat.le_of_ble_eq_true rfl), (Nat.le_of_ble_eq_true rfl)⟩ rfl rfl dX7_codeBit_2 rfl ?_
  refine g_astore_n (q := 6) (al2 := [some (.ref (0)), some (.int (iI (i))), some (.int (iI (j))), some (.ref (5 + 3 * i))]) rfl (by decide) rfl rfl dX7_codeBit_5 rfl ?_
  refine g_iload_n (q := 7) rfl rfl dX7_codeBit_6 rfl ?_
  refine g_aload_n (q := 8) rfl rfl dX7_codeBit_7 rfl ?_
  refine g_Vr (q := 11) (d' := 1) (i := 5 + 3 * i) (av := []) (st := [.int (iI (j))]) (v := .int (iI (szP (S.1 i).1 (S.1 i).2 (pn (S.1 i).1 (S.1 i).2)))) kvX7_113 (by have := t_X4_codeSize l h (5 + 3 * i) (S.1 i).1 m ds fa hA (by omega); rw [szS_szP hFO m (Nat.le_refl _), em] at this; exact this) (by show _ < 103; omega) hA.1 rfl (Nat.le_of_ble_eq_true rfl) ⟨(Nat.le_of_ble_eq_true rfl), (Nat.le_of_ble_eq_true rfl)⟩ ⟨(Nat.le_of_ble_eq_true rfl), (Nat.le_of_ble_eq_true rfl)⟩ rfl rfl dX7_codeBit_8 rfl ?_
  exact g_Sx (d' := 6) (av := [.int (iI (j)), .int (iI (szP (S.1 i).1 (S.1 i).2 (pn (S.1 i).1 (S.1 i).2)))]) (st := []) ksX7_93 (x_X7_requireIndex l h j (szP (S.1 i).1 (S.1 i).2 (pn (S.1 i).1 (S.1 i).2)) hj ⟨by omega, by omega⟩ hx) rfl (Nat.le_of_ble_eq_true rfl) ⟨(Nat.le_of_ble_eq_true rfl), (Nat.le_of_ble_eq_true rfl)⟩ ⟨(Nat.le_of_ble_eq_true rfl), (Nat.le_of_ble_eq_true rfl)⟩ rfl rfl dX7_codeBit_11 (fun h2 z => xP_in z)
set_option maxRecDepth 4000 in
theorem t_X7_bitsPerDocument (l : Launch) (h : EHp) (S : ASt) (sv : List ASt) (hC : CRep h S sv) (i : Nat) (hi : i < 4) : CT l mX7_bitsPerDocument 9 0 0 [.ref (0), .int (iI (i))] NN h (rP (.double (if (S.1 i).1 = 0 then FP.dconst0 else bpd (szP (S.1 i).1 (S.1 i).2 (pn (S.1 i).1 (S.1 i).2)) (S.1 i).1)) h) := by
  obtain ⟨g0, k1, k2, k4, k5, -⟩ := id hC
  obtain ⟨m, ds, fa, hA, hag, hO, hFO⟩ := k5 i hi trivial
  have hOd := ag_LOk hag hO
  obtain ⟨o1, o2, o3, o4⟩ := id hO
  have em := hFO.pn
  have hm := hFO.1
  have hsz := szP_le hO hFO.2.1 (Nat.le_refl m)
  rw [em] at hsz
  refine CT.of (by decide) (Nat.le_of_ble_eq_true rfl) ?_
  refine g_al (al2 := [some (.ref (0)), some (.int (iI (i))), none]) rfl ?_
  refine g_aload_n (q := 1) rfl rfl dX7_bitsPerDocument_0 rfl ?_
  refine g_iload_n (q := 2) rfl rfl dX7_bitsPerDocument_1 rfl ?_
  refine g_Vr (q := 5) (d' := 8) (i := 0) (av := [.int (iI (i))]) (st := []) (v := .ref (5 + 3 * i)) kvX7_48 (t_X7_listAt l h S sv hC i hi) (by decide) g0 rfl (Nat.le_of_ble_eq_true rfl) ⟨(Nat.le_of_ble_eq_true rfl), (Nat.le_of_ble_eq_true rfl)⟩ ⟨(Nat.le_of_ble_eq_true rfl), (Nat.le_of_ble_eq_true rfl)⟩ rfl rfl dX7_bitsPerDocument_2 rfl ?_
  refine g_astore_n (q := 6) (al2 := [some (.ref (0)), some (.int (iI (i))), some (.ref (5 + 3 * i))]) rfl (by decide) rfl rfl dX7_bitsPerDocument_5 rfl ?_
  refine g_aload_n (q := 7) rfl rfl dX7_bitsPerDocument_6 rfl ?_
  refine g_get (q := 10) fX7_69r (by show _ < 103; omega) hA.1 rfl dX7_bitsPerDocument_7 rfl ?_
  refine g_if_ne (t := 15) (q := 13) ⟨by omega, by omega⟩ dX7_bitsPerDocument_10 rfl rfl (fun c10 => ?_) (fun c10 => ?_)
  · refine g_aload_n (q := 16) rfl rfl dX7_bitsPerDocument_15 rfl ?_
    refine g_Vr (q := 19) (d' := 1) (i := 5 + 3 * i) (av := []) (st := []) (v := .int (iI (szP (S.1 i).1 (S.1 i).2 (pn (S.1 i).1 (S.1 i).2)))) kvX7_113 (by have := t_X4_codeSize l h (5 + 3 * i) (S.1 i).1 m ds fa hA (by omega); rw [szS_szP hFO m (Nat.le_refl _), em] at this; exact this) (by show _ < 103; omega) hA.1 rfl (Nat.le_of_ble_eq_true rfl) ⟨(Nat.le_of_ble_eq_true rfl), (Nat.le_of_ble_eq_true rfl)⟩ ⟨(Nat.le_of_ble_eq_true rfl), (Nat.le_of_ble_eq_true rfl)⟩ rfl rfl dX7_bitsPerDocument_16 rfl ?_
    refine g_i2d (q := 20) dX7_bitsPerDocument_19 rfl ?_
    refine g_aload_n (q := 21) rfl rfl dX7_bitsPerDocument_20 rfl ?_
    refine g_get (q := 24) fX7_69r (by show _ < 103; omega) hA.1 rfl dX7_bitsPerDocument_21 rfl ?_
    refine g_i2d (q := 25) dX7_bitsPerDocument_24 rfl ?_
    refine g_ddiv (q := 26) (bpd_ok hsz.1 hsz.2 (by omega) (by omega)) dX7_bitsPerDocument_25 rfl ?_
    exact g_dreturn (fun z => NN_f z) (Nat.le_of_ble_eq_true rfl) (Nat.le_of_ble_eq_true rfl) dX7_bitsPerDocument_26 rfl (by rw [if_neg (by omega)]; exact rP_in)
  · refine g_dconst0 (q := 14) dX7_bitsPerDocument_13 rfl ?_
    exact g_dreturn (fun z => NN_f z) (Nat.le_of_ble_eq_true rfl) (Nat.le_of_ble_eq_true rfl) dX7_bitsPerDocument_14 rfl (by rw [if_pos (by omega)]; exact rP_in)
set_option maxRecDepth 4000 in
theorem x_X7_bitsPerDocument (l : Launch) (h : EHp) (S : ASt) (sv : List ASt) (hC : CRep h S sv) (i : Int) (hi : IR i) (h0 : i < 0 ∨ 4 ≤ i) : CT l mX7_bitsPerDocument 9 1 6 [.ref (0), .int (iI (i))] NN h (xP eIO (fun h' => h' = h)) := by
  obtain ⟨g0, k1, k2, k4, k5, -⟩ := id hC
  refine CT.of (by decide) (Nat.le_of_ble_eq_true rfl) ?_
  refine g_al (al2 := [some (.ref (0)), some (.int (iI (i))), none]) rfl ?_
  refine g_aload_n (q := 1) rfl rfl dX7_bitsPerDocument_0 rfl ?_
  refine g_iload_n (q := 2) rfl rfl dX7_bitsPerDocument_1 rfl ?_
  exact g_Vx (d' := 8) (i := 0) (av := [.int (iI (i))]) (st := []) kvX7_48 (x_X7_listAt l h i hi h0) (by decide) g0 rfl (Nat.le_of_ble_eq_true rfl) ⟨(Nat.le_of_ble_eq_true rfl), (Nat.le_of_ble_eq_true rfl)⟩ ⟨(Nat.le_of_ble_eq_true rfl), (Nat.le_of_ble_eq_true rfl)⟩ rfl rfl dX7_bitsPerDocument_2 (fun h2 z => xP_in z)
