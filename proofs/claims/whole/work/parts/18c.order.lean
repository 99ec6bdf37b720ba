/-! ===== orderLists, askOthers ===== -/
set_option maxRecDepth 4000 in
theorem t_X7_orderLists (l : Launch) (h : EHp) (S : ASt) (sv : List ASt) (hC : CRep h S sv) (ls : Int) (l0 : 1 ≤ ls) (l1 : ls ≤ 15) : CT l mX7_orderLists 0 0 0 [.ref (0), .int (iI (ls))] NN h (wP (fun v h' => v = .int (iI (ordn S ls)) ∧ ∃ od, h' 88 = cI 4 od ∧ Ag (ordn S ls) od (ordf S ls) ∧ ∀ t, t ≠ 88 → h' t = h t)) := by
  obtain ⟨g0, k1, k2, k4, k5, ⟨nx, g5⟩, ⟨Ws, Es, g6, g7, g8⟩, ⟨len0, bs, g9, g10, g11⟩, ⟨od0, g12⟩, ⟨rs0, g13⟩⟩ := id hC
  have hLS := crep_LS hC
  refine CT.of (by decide) (Nat.le_of_ble_eq_true rfl) ?_
  refine g_al (al2 := [some (.ref (0)), some (.int (iI (ls))), none, none, none]) rfl ?_
  refine g_iconst (q := 1) dX7_orderLists_0 rfl ?_
  refine g_istore_n (q := 2) (al2 := [some (.ref (0)), some (.int (iI (ls))), some (.int (iI (0))), none, none]) rfl (by decide) rfl rfl dX7_orderLists_1 rfl ?_
  refine g_iconst (q := 3) dX7_orderLists_2 rfl ?_
  refine g_istore_n (q := 4) (al2 := [some (.ref (0)), some (.int (iI (ls))), some (.int (iI (0))), some (.int (iI (0))), none]) rfl (by decide) rfl rfl dX7_orderLists_3 rfl ?_
  refine loopG (σ := Nat × Int × (Int → Int) × EHp) (P := fun zz => match zz with | (L, n, od, h2) => G l noX mX7_orderLists 0 0 0 (wP (fun v h' => v = .int (iI (ordn S ls)) ∧ ∃ od, h' 88 = cI 4 od ∧ Ag (ordn S ls) od (ordf S ls) ∧ ∀ t, t ≠ 88 → h' t = h t)) 0 0 4 [some (.ref (0)), some (.int (iI (ls))), some (.int (iI (n))), some (.int (iI (L))), none] [] NN h2) (I := fun zz => match zz with | (L, n, od, h2) => L ≤ 4 ∧ OI S ls L n od ∧ h2 88 = cI 4 od ∧ ∀ t, t ≠ 88 → h2 t = h t) (fun zz => match zz with | (L, n, od, h2) => 4 - L) ?_ (0, 0, od0, h) ⟨by omega, OI0, g12, fun _ _ => rfl⟩
  rintro ⟨L, n, od, h2⟩ hI iho
  obtain ⟨hL4, hOI, hr, fr⟩ := hI
  obtain ⟨z1, z2, z3, z4, z5⟩ := id hOI
  have q0 : h2 0 = _ := (fr 0 (by decide)).trans g0
  refine g_iload_n (q := 5) rfl rfl dX7_orderLists_4 rfl ?_
  refine g_iconst (q := 6) dX7_orderLists_5 rfl ?_
  refine g_icmp_ge (t := 99) (q := 9) ⟨by omega, by omega⟩ ⟨by omega, by omega⟩ dX7_orderLists_6 rfl rfl (fun c6 => ?_) (fun c6 => ?_)
  · have eL : L = 4 := by omega
    subst eL
    obtain ⟨e1, e2⟩ := hOI.end hLS
    refine g_iload_n (q := 100) rfl rfl dX7_orderLists_99 rfl ?_
    exact g_ireturn (fun z => NN_f z) (Nat.le_of_ble_eq_true rfl) (Nat.le_of_ble_eq_true rfl) dX7_orderLists_100 rfl (wP_in ⟨by rw [e1], od, hr, by rw [← e1]; exact e2, fr⟩)
  · have hL3 : L < 4 := by omega
    have pw : (2 : Int) ^ ((L : Int)).toNat ≤ 512 := p2_512 (by omega) (by omega)
    have dv := div2_nn (a := ls) (w := (L : Int)) (by omega)
    refine g_iload_n (q := 10) rfl rfl dX7_orderLists_9 rfl ?_
    refine g_iload_n (q := 11) rfl rfl dX7_orderLists_10 rfl ?_
    refine g_ishr (q := 12) (by omega) (by omega) (by omega) (by omega) dX7_orderLists_11 rfl ?_
    refine g_iconst (q := 13) dX7_orderLists_12 rfl ?_
    refine g_iand1 (q := 14) (by omega) (by omega) dX7_orderLists_13 rfl ?_
    refine g_if_eq (t := 93) (q := 17) ⟨by omega, by omega⟩ dX7_orderLists_14 rfl rfl (fun c14 => ?_) (fun c14 => ?_)
    · refine g_iinc (q := 96) (al2 := [some (.ref (0)), some (.int (iI (ls))), some (.int (iI (n))), some (.int (iI (L + 1))), none]) rfl (by decide) rfl rfl dX7_orderLists_93 rfl ?_
      refine g_goto (q := 4) dX7_orderLists_96 rfl ?_
      exact iho (L + 1, n, od, h2) ⟨by show L + 1 ≤ 4; omega, hOI.skip (fun z => by unfold bitL at z; omega), hr, fr⟩ (by show 4 - (L + 1) < 4 - L; omega)
    · have hb : bitL ls L := by unfold bitL; omega
      obtain ⟨mL, dsL, faL, hAL, -, hOL, -⟩ := k5 L hL3 trivial
      have cL1 := hOL.1
      have cL2 := hOL.2.1
      have erL : lref 1 (L : Int) = some (5 + 3 * L) := by unfold lref; rw [if_pos (by omega), Int.toNat_natCast]
      refine g_iload_n (q := 18) rfl rfl dX7_orderLists_17 rfl ?_
      refine g_istore (q := 20) (al2 := [some (.ref (0)), some (.int (iI (ls))), some (.int (iI (n))), some (.int (iI (L))), some (.int (iI (n)))]) (by decide) rfl rfl dX7_orderLists_18 rfl ?_
      refine loopG (σ := Int × (Int → Int) × EHp) (P := fun zz => match zz with | (a, o2, h3) => G l noX mX7_orderLists 0 0 0 (wP (fun v h' => v = .int (iI (ordn S ls)) ∧ ∃ od, h' 88 = cI 4 od ∧ Ag (ordn S ls) od (ordf S ls) ∧ ∀ t, t ≠ 88 → h' t = h t)) 0 0 20 [some (.ref (0)), some (.int (iI (ls))), some (.int (iI (n))), some (.int (iI (L))), some (.int (iI (a)))] [] NN h3) (I := fun zz => match zz with | (a, o2, h3) => 0 ≤ a ∧ a ≤ n ∧ h3 88 = cI 4 o2 ∧ (∀ t, t ≠ 88 → h3 t = h t) ∧ (∀ p, 0 ≤ p → p < a → o2 p = od p) ∧ (∀ p, a < p → p ≤ n → o2 p = od (p - 1)) ∧ ∀ p, a ≤ p → p < n → cnt S L < cnt S (od p)) (fun zz => match zz with | (a, o2, h3) => a.toNat) ?_ (n, od, h2) ⟨z1, Int.le_refl _, hr, fr, fun _ _ _ => rfl, fun p x y => by omega, fun p x y => by omega⟩
      rintro ⟨a, o2, h3⟩ hI ih
      obtain ⟨a0, a1, hr3, fr3, y1, y2, y3⟩ := hI
      have q30 : h3 0 = _ := (fr3 0 (by decide)).trans g0
      have q31 : h3 1 = _ := (fr3 1 (by decide)).trans k1
      have q32 : h3 2 = _ := (fr3 2 (by decide)).trans k2
      have q3L : h3 (5 + 3 * L) = _ := (fr3 (5 + 3 * L) (by omega)).trans hAL.1
      refine g_iload (q := 22) rfl dX7_orderLists_20 rfl ?_
      refine g_if_le (t := 82) (q := 25) ⟨by omega, by omega⟩ dX7_orderLists_22 rfl rfl (fun c22 => ?_) (fun c22 => ?_)
      · refine g_aload_n (q := 83) rfl rfl dX7_orderLists_82 rfl ?_
        refine g_get (q := 86) fX7_37r (by decide) q30 rfl dX7_orderLists_83 rfl ?_
        refine g_iload (q := 88) rfl dX7_orderLists_86 rfl ?_
        refine g_iload_n (q := 89) rfl rfl dX7_orderLists_88 rfl ?_
        refine g_iastore (q := 90) (by decide) hr3 (by omega) (by omega) (by decide) dX7_orderLists_89 rfl ?_
        refine hp_in (fun hh1 ehh1 => ?_)
        have fc2 : hh1 0 = cO 6 [.ref (1), .ref (17), .ref (83), .ref (86), .ref (88), .ref (89)] := by rw [ehh1, ueh_n (by decide)]; exact q30
        have fc3 : hh1 1 = cO 5 [.ref (2), .ref (3), .int (iI (S.2.2.2.1)), .int (iI (S.2.2.2.2))] := by rw [ehh1, ueh_n (by decide)]; exact q31
        have fc4 : hh1 2 = cR 4 4 (lref 1) := by rw [ehh1, ueh_n (by decide)]; exact q32
        have fc5 : hh1 88 = cI 4 (ui o2 a L) := by rw [ehh1]; exact ueh_s
        have fc6 : hh1 (5 + 3 * L) = cO 4 [.ref (5 + 3 * L + 1), .int (iI ((S.1 L).1)), .ref (5 + 3 * L + 2), .int (iI (mL))] := by rw [ehh1, ueh_n (by omega)]; exact q3L
        refine g_iinc (q := 93) (al2 := [some (.ref (0)), some (.int (iI (ls))), some (.int (iI (n + 1))), some (.int (iI (L))), some (.int (iI (a)))]) rfl (by decide) rfl rfl dX7_orderLists_90 rfl ?_
        refine g_iinc (q := 96) (al2 := [some (.ref (0)), some (.int (iI (ls))), some (.int (iI (n + 1))), some (.int (iI (L + 1))), some (.int (iI (a)))]) rfl (by decide) rfl rfl dX7_orderLists_93 rfl ?_
        refine g_goto (q := 4) dX7_orderLists_96 rfl ?_
        refine g_drop (al2 := [some (.ref (0)), some (.int (iI (ls))), some (.int (iI (n + 1))), some (.int (iI (L + 1))), none]) 4 rfl ?_
        exact iho (L + 1, n + 1, ui o2 a L, hh1) ⟨by show L + 1 ≤ 4; omega, hOI.ins hL3 hb a0 a1 (fun p x y => by unfold ui; rw [if_neg (by omega)]; exact y1 p x y) (by unfold ui; rw [if_pos rfl]) (fun p x y => by unfold ui; rw [if_neg (by omega)]; exact y2 p x y) y3 (fun z => by omega), fc5, fun t ht => by rw [ehh1, ueh_n ht]; exact fr3 t ht⟩ (by show 4 - (L + 1) < 4 - L; omega)
      · obtain ⟨q, hq, hq2⟩ : ∃ q : Nat, od (a - 1) = q ∧ q < L := ⟨(od (a - 1)).toNat, by have := z3 (a - 1) (by omega) (by omega); omega, by have := z3 (a - 1) (by omega) (by omega); omega⟩
        have hqo : o2 (a - 1) = q := by rw [y1 (a - 1) (by omega) (by omega)]; exact hq
        obtain ⟨mq, dsq, faq, hAq, -, hOq, -⟩ := k5 q (by omega) trivial
        have cq1 := hOq.1
        have cq2 := hOq.2.1
        have erq : lref 1 (q : Int) = some (5 + 3 * q) := by unfold lref; rw [if_pos (by omega), Int.toNat_natCast]
        have q3q : h3 (5 + 3 * q) = _ := (fr3 (5 + 3 * q) (by omega)).trans hAq.1
        have cnq : cnt S (od (a - 1)) = (S.1 q).1 := by unfold cnt; rw [hq, Int.toNat_natCast]
        have cnL : cnt S (L : Int) = (S.1 L).1 := by unfold cnt; rw [Int.toNat_natCast]
        refine g_aload_n (q := 26) rfl rfl dX7_orderLists_25 rfl ?_
        refine g_get (q := 29) fX7_12r (by decide) q30 rfl dX7_orderLists_26 rfl ?_
        refine g_get (q := 32) fX7_177r (by decide) q31 rfl dX7_orderLists_29 rfl ?_
        refine g_aload_n (q := 33) rfl rfl dX7_orderLists_32 rfl ?_
        refine g_get (q := 36) fX7_37r (by decide) q30 rfl dX7_orderLists_33 rfl ?_
        refine g_iload (q := 38) rfl dX7_orderLists_36 rfl ?_
        refine g_iconst (q := 39) dX7_orderLists_38 rfl ?_
        refine g_isub (q := 40) dX7_orderLists_39 rfl ?_
        refine g_iaload (q := 41) (by decide) hr3 (by omega) (by omega) (by decide) dX7_orderLists_40 rfl ?_
        rw [hqo]
        refine g_aaload (q := 42) (by decide) q32 (Or.inl rfl) (by omega) (by omega) (by decide) erq dX7_orderLists_41 rfl ?_
        refine g_get (q := 45) fX7_69r (by show _ < 103; omega) q3q rfl dX7_orderLists_42 rfl ?_
        refine g_aload_n (q := 46) rfl rfl dX7_orderLists_45 rfl ?_
        refine g_get (q := 49) fX7_12r (by decide) q30 rfl dX7_orderLists_46 rfl ?_
        refine g_get (q := 52) fX7_177r (by decide) q31 rfl dX7_orderLists_49 rfl ?_
        refine g_iload_n (q := 53) rfl rfl dX7_orderLists_52 rfl ?_
        refine g_aaload (q := 54) (by decide) q32 (Or.inl rfl) (by omega) (by omega) (by decide) erL dX7_orderLists_53 rfl ?_
        refine g_get (q := 57) fX7_69r (by show _ < 103; omega) q3L rfl dX7_orderLists_54 rfl ?_
        refine g_icmp_le (t := 82) (q := 60) ⟨by omega, by omega⟩ ⟨by omega, by omega⟩ dX7_orderLists_57 rfl rfl (fun c57 => ?_) (fun c57 => ?_)
        · refine g_aload_n (q := 83) rfl rfl dX7_orderLists_82 rfl ?_
          refine g_get (q := 86) fX7_37r (by decide) q30 rfl dX7_orderLists_83 rfl ?_
          refine g_iload (q := 88) rfl dX7_orderLists_86 rfl ?_
          refine g_iload_n (q := 89) rfl rfl dX7_orderLists_88 rfl ?_
          refine g_iastore (q := 90) (by decide) hr3 (by omega) (by omega) (by decide) dX7_orderLists_89 rfl ?_
          refine hp_in (fun hh7 ehh7 => ?_)
          have fc8 : hh7 0 = cO 6 [.ref (1), .ref (17), .ref (83), .ref (86), .ref (88), .ref (89)] := by rw [ehh7, ueh_n (by decide)]; exact q30
          have fc9 : hh7 1 = cO 5 [.ref (2), .ref (3), .int (iI (S.2.2.2.1)), .int (iI (S.2.2.2.2))] := by rw [ehh7, ueh_n (by decide)]; exact q31
          have fc10 : hh7 2 = cR 4 4 (lref 1) := by rw [ehh7, ueh_n (by decide)]; exact q32
          have fc11 : hh7 88 = cI 4 (ui o2 a L) := by rw [ehh7]; exact ueh_s
          have fc12 : hh7 (5 + 3 * L) = cO 4 [.ref (5 + 3 * L + 1), .int (iI ((S.1 L).1)), .ref (5 + 3 * L + 2), .int (iI (mL))] := by rw [ehh7, ueh_n (by omega)]; exact q3L
          have fc13 : hh7 (5 + 3 * q) = cO 4 [.ref (5 + 3 * q + 1), .int (iI ((S.1 q).1)), .ref (5 + 3 * q + 2), .int (iI (mq))] := by rw [ehh7, ueh_n (by omega)]; exact q3q
          refine g_iinc (q := 93) (al2 := [some (.ref (0)), some (.int (iI (ls))), some (.int (iI (n + 1))), some (.int (iI (L))), some (.int (iI (a)))]) rfl (by decide) rfl rfl dX7_orderLists_90 rfl ?_
          refine g_iinc (q := 96) (al2 := [some (.ref (0)), some (.int (iI (ls))), some (.int (iI (n + 1))), some (.int (iI (L + 1))), some (.int (iI (a)))]) rfl (by decide) rfl rfl dX7_orderLists_93 rfl ?_
          refine g_goto (q := 4) dX7_orderLists_96 rfl ?_
          refine g_drop (al2 := [some (.ref (0)), some (.int (iI (ls))), some (.int (iI (n + 1))), some (.int (iI (L + 1))), none]) 4 rfl ?_
          exact iho (L + 1, n + 1, ui o2 a L, hh7) ⟨by show L + 1 ≤ 4; omega, hOI.ins hL3 hb a0 a1 (fun p x y => by unfold ui; rw [if_neg (by omega)]; exact y1 p x y) (by unfold ui; rw [if_pos rfl]) (fun p x y => by unfold ui; rw [if_neg (by omega)]; exact y2 p x y) y3 (fun z => by rw [cnq, cnL]; omega), fc11, fun t ht => by rw [ehh7, ueh_n ht]; exact fr3 t ht⟩ (by show 4 - (L + 1) < 4 - L; omega)
        · refine g_aload_n (q := 61) rfl rfl dX7_orderLists_60 rfl ?_
          refine g_get (q := 64) fX7_37r (by decide) q30 rfl dX7_orderLists_61 rfl ?_
          refine g_iload (q := 66) rfl dX7_orderLists_64 rfl ?_
          refine g_aload_n (q := 67) rfl rfl dX7_orderLists_66 rfl ?_
          refine g_get (q := 70) fX7_37r (by decide) q30 rfl dX7_orderLists_67 rfl ?_
          refine g_iload (q := 72) rfl dX7_orderLists_70 rfl ?_
          refine g_iconst (q := 73) dX7_orderLists_72 rfl ?_
          refine g_isub (q := 74) dX7_orderLists_73 rfl ?_
          refine g_iaload (q := 75) (by decide) hr3 (by omega) (by omega) (by decide) dX7_orderLists_74 rfl ?_
          refine g_iastore (q := 76) (by decide) hr3 (by omega) (by omega) (by decide) dX7_orderLists_75 rfl ?_
          refine hp_in (fun hh14 ehh14 => ?_)
          have fc15 : hh14 0 = cO 6 [.ref (1), .ref (17), .ref (83), .ref (86), .ref (88), .ref (89)] := by rw [ehh14, ueh_n (by decide)]; exact q30
          have fc16 : hh14 1 = cO 5 [.ref (2), .ref (3), .int (iI (S.2.2.2.1)), .int (iI (S.2.2.2.2))] := by rw [ehh14, ueh_n (by decide)]; exact q31
          have fc17 : hh14 2 = cR 4 4 (lref 1) := by rw [ehh14, ueh_n (by decide)]; exact q32
          have fc18 : hh14 88 = cI 4 (ui o2 a (o2 (a - 1))) := by rw [ehh14]; exact ueh_s
          have fc19 : hh14 (5 + 3 * L) = cO 4 [.ref (5 + 3 * L + 1), .int (iI ((S.1 L).1)), .ref (5 + 3 * L + 2), .int (iI (mL))] := by rw [ehh14, ueh_n (by omega)]; exact q3L
          have fc20 : hh14 (5 + 3 * q) = cO 4 [.ref (5 + 3 * q + 1), .int (iI ((S.1 q).1)), .ref (5 + 3 * q + 2), .int (iI (mq))] := by rw [ehh14, ueh_n (by omega)]; exact q3q
          refine g_iinc (q := 79) (al2 := [some (.ref (0)), some (.int (iI (ls))), some (.int (iI (n))), some (.int (iI (L))), some (.int (iI (a + -1)))]) rfl (by decide) rfl rfl dX7_orderLists_76 rfl ?_
          refine g_goto (q := 20) dX7_orderLists_79 rfl ?_
          rw [show a + -1 = a - 1 by omega]
          exact ih (a - 1, ui o2 a (o2 (a - 1)), hh14) ⟨by omega, by omega, fc18, fun t ht => by rw [ehh14, ueh_n ht]; exact fr3 t ht, fun p x y => by unfold ui; rw [if_neg (by omega)]; exact y1 p x (by omega), fun p x y => by
              unfold ui
              by_cases e : p = a
              · rw [if_pos e, e]; exact y1 (a - 1) (by omega) (by omega)
              · rw [if_neg e]; exact y2 p (by omega) y, fun p x y => by
              by_cases e : p = a - 1
              · rw [e, cnq, cnL]; omega
              · exact y3 p (by omega) y⟩ (by show (a - 1).toNat < a.toNat; omega)
set_option maxRecDepth 4000 in
theorem t_X7_askOthers (l : Launch) (h : EHp) (S : ASt) (sv : List ASt) (hC : CRep h S sv) (o od : Int → Int) (n cand : Int) (c0 : 0 ≤ cand) (c1 : cand ≤ 511) (n1 : 1 ≤ n) (n4 : n ≤ 4) (ho : ∀ t, 0 ≤ t → t < n → 0 ≤ o t ∧ o t < 4) (hod : h 88 = cI 4 od) (hag : Ag n od o) : CT l mX7_askOthers 5 0 0 [.ref (0), .int (iI (cand)), .int (iI (n))] NN h (wP (fun v h' => v = .int (iI (ask o cand (n - 1).toNat 1 cand S).1) ∧ CRep h' (ask o cand (n - 1).toNat 1 cand S).2 sv ∧ ∀ t, 16 < t → h' t = h t)) := by
  have hLS := crep_LS hC
  refine CT.of (by decide) (Nat.le_of_ble_eq_true rfl) ?_
  refine g_al (al2 := [some (.ref (0)), some (.int (iI (cand))), some (.int (iI (n))), none, none]) rfl ?_
  refine g_iload_n (q := 1) rfl rfl dX7_askOthers_0 rfl ?_
  refine g_istore_n (q := 2) (al2 := [some (.ref (0)), some (.int (iI (cand))), some (.int (iI (n))), some (.int (iI (cand))), none]) rfl (by decide) rfl rfl dX7_askOthers_1 rfl ?_
  refine g_iconst (q := 3) dX7_askOthers_2 rfl ?_
  refine g_istore (q := 5) (al2 := [some (.ref (0)), some (.int (iI (cand))), some (.int (iI (n))), some (.int (iI (cand))), some (.int (iI (1)))]) (by decide) rfl rfl dX7_askOthers_3 rfl ?_
  refine loopG (σ := Int × Int × ASt × EHp) (P := fun zz => match zz with | (k, y, S1, h2) => G l noX mX7_askOthers 5 0 0 (wP (fun v h' => v = .int (iI (ask o cand (n - 1).toNat 1 cand S).1) ∧ CRep h' (ask o cand (n - 1).toNat 1 cand S).2 sv ∧ ∀ t, 16 < t → h' t = h t)) 0 0 5 [some (.ref (0)), some (.int (iI (cand))), some (.int (iI (n))), some (.int (iI (y))), some (.int (iI (k)))] [] NN h2) (I := fun zz => match zz with | (k, y, S1, h2) => 1 ≤ k ∧ k ≤ n ∧ ask o cand (n - 1).toNat 1 cand S = ask o cand (n - k).toNat k y S1 ∧ CRep h2 S1 sv ∧ (∀ t, 16 < t → h2 t = h t) ∧ (y = -1 ∨ (cand ≤ y ∧ y ≤ 511))) (fun zz => match zz with | (k, y, S1, h2) => (n - k).toNat) ?_ (1, cand, S, h) ⟨Int.le_refl _, n1, rfl, hC, fun _ _ => rfl, Or.inr ⟨Int.le_refl _, c1⟩⟩
  rintro ⟨k, y, S1, h2⟩ hI ih
  obtain ⟨k1, k2, ea, hC2, fr, hy⟩ := hI
  obtain ⟨e0, e1, -⟩ := id hC2
  have hod2 : h2 88 = _ := (fr 88 (by omega)).trans hod
  refine g_iload (q := 7) rfl dX7_askOthers_5 rfl ?_
  refine g_iload_n (q := 8) rfl rfl dX7_askOthers_7 rfl ?_
  refine g_icmp_ge (t := 38) (q := 11) ⟨by omega, by omega⟩ ⟨by omega, by omega⟩ dX7_askOthers_8 rfl rfl (fun c8 => ?_) (fun c8 => ?_)
  · have ee : ask o cand (n - k).toNat k y S1 = (y, S1) := by rw [show (n - k).toNat = 0 by omega]; rfl
    refine g_iload_n (q := 39) rfl rfl dX7_askOthers_38 rfl ?_
    exact g_ireturn (fun z => NN_f z) (Nat.le_of_ble_eq_true rfl) (Nat.le_of_ble_eq_true rfl) dX7_askOthers_39 rfl (wP_in ⟨by rw [ea, ee], by rw [ea, ee]; exact hC2, fr⟩)
  · refine g_iload_n (q := 12) rfl rfl dX7_askOthers_11 rfl ?_
    refine g_iload_n (q := 13) rfl rfl dX7_askOthers_12 rfl ?_
    refine g_icmp_ne (t := 38) (q := 16) ⟨by omega, by omega⟩ ⟨by omega, by omega⟩ dX7_askOthers_13 rfl rfl (fun c13 => ?_) (fun c13 => ?_)
    · have ee : ask o cand (n - k).toNat k y S1 = (y, S1) := ask_n (by omega) _
      refine g_iload_n (q := 39) rfl rfl dX7_askOthers_38 rfl ?_
      exact g_ireturn (fun z => NN_f z) (Nat.le_of_ble_eq_true rfl) (Nat.le_of_ble_eq_true rfl) dX7_askOthers_39 rfl (wP_in ⟨by rw [ea, ee], by rw [ea, ee]; exact hC2, fr⟩)
    · have ey : y = cand := by omega
      subst ey
      have ok := ho k (by omega) (by omega)
      have hk := hag k (by omega) (by omega)
      obtain ⟨q, hq⟩ : ∃ q : Nat, o k = q := ⟨(o k).toNat, by omega⟩
      refine g_aload_n (q := 17) rfl rfl dX7_askOthers_16 rfl ?_
      refine g_get (q := 20) fX7_12r (by decide) e0 rfl dX7_askOthers_17 rfl ?_
      refine g_aload_n (q := 21) rfl rfl dX7_askOthers_20 rfl ?_
      refine g_get (q := 24) fX7_37r (by decide) e0 rfl dX7_askOthers_21 rfl ?_
      refine g_iload (q := 26) rfl dX7_askOthers_24 rfl ?_
      refine g_iaload (q := 27) (by decide) hod2 (by omega) (by omega) (by decide) dX7_askOthers_26 rfl ?_
      rw [hk, hq]
      refine g_iload_n (q := 28) rfl rfl dX7_askOthers_27 rfl ?_
      refine g_Vw (q := 31) (d' := 4) (i := 1) (av := [.int (iI ((q : Int))), .int (iI (y))]) (st := []) kvX7_129 (t_X6_query l h2 1 q S1 (crep_SA hC2) (by omega) y c0 c1) (by decide) e1 rfl (Nat.le_of_ble_eq_true rfl) ⟨(Nat.le_of_ble_eq_true rfl), (Nat.le_of_ble_eq_true rfl)⟩ ⟨(Nat.le_of_ble_eq_true rfl), (Nat.le_of_ble_eq_true rfl)⟩ rfl rfl dX7_askOthers_28 rfl (fun v h3 hp => ?_)
      obtain ⟨rfl, p1, p2⟩ := hp
      refine g_istore_n (q := 32) (al2 := [some (.ref (0)), some (.int (iI (y))), some (.int (iI (n))), some (.int (iI ((qry S1 q y).1))), some (.int (iI (k)))]) rfl (by decide) rfl rfl dX7_askOthers_31 rfl ?_
      refine g_iinc (q := 35) (al2 := [some (.ref (0)), some (.int (iI (y))), some (.int (iI (n))), some (.int (iI ((qry S1 q y).1))), some (.int (iI (k + 1)))]) rfl (by decide) rfl rfl dX7_askOthers_32 rfl ?_
      refine g_goto (q := 5) dX7_askOthers_35 rfl ?_
      exact ih (k + 1, (qry S1 q y).1, (qry S1 q y).2, h3) ⟨by omega, by omega, by
          rw [ea, show (n - k).toNat = (n - (k + 1)).toNat + 1 by omega, ask_y, hq, Int.toNat_natCast], crep_of hC2 p1 p2, fun t ht => (p2 t (by omega)).trans (fr t ht), by
          rcases qry_rng (x := y) (crep_LS hC2 q (by omega)) with z | ⟨p, -, -, -, z, -, z2⟩
          · exact Or.inl z
          · exact Or.inr ⟨z, z2⟩⟩ (by show (n - (k + 1)).toNat < (n - k).toNat; omega)
