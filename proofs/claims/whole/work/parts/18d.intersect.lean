/-! ===== intersections ===== -/
set_option maxRecDepth 4000 in
theorem t_X7_findIntersection (l : Launch) (h : EHp) (S : ASt) (sv : List ASt) (hC : CRep h S sv) (ls : Int) (l0 : 1 ≤ ls) (l1 : ls ≤ 15) : CT l mX7_findIntersection 6 0 0 [.ref (0), .int (iI (ls))] NN h (wP (fun v h' => v = .int (iI (isc S ls).2.1) ∧ CRep h' (isc S ls).2.2.2 sv ∧ (∃ rs, h' 89 = cI 128 rs ∧ Ag (isc S ls).2.1 rs (isc S ls).2.2.1) ∧ FrC h h')) := by
  obtain ⟨g0, k1, k2, k4, k5, -⟩ := id hC
  have hLS := crep_LS hC
  have n1 := ord_pos l0 l1 hLS
  have n4 := ord_le (S := S) (ls := ls)
  have ho : ∀ t, 0 ≤ t → t < ordn S ls → 0 ≤ ordf S ls t ∧ ordf S ls t < 4 := fun t a b => ord_rng a b
  obtain ⟨-, -, -, -, -, -, -, -, -, ⟨rs0, g13⟩⟩ := id hC
  have o0 := ho 0 (by omega) (by omega)
  obtain ⟨q, hq⟩ : ∃ q : Nat, ordf S ls 0 = q := ⟨(ordf S ls 0).toNat, by omega⟩
  have hqt : (ordf S ls 0).toNat = q := by rw [hq, Int.toNat_natCast]
  have hq4 : q < 4 := by omega
  refine CT.of (by decide) (Nat.le_of_ble_eq_true rfl) ?_
  refine g_al (al2 := [some (.ref (0)), some (.int (iI (ls))), none, none, none, none, none, none]) rfl ?_
  refine g_aload_n (q := 1) rfl rfl dX7_findIntersection_0 rfl ?_
  refine g_iload_n (q := 2) rfl rfl dX7_findIntersection_1 rfl ?_
  refine g_Vw (q := 5) (d' := 0) (i := 0) (av := [.int (iI (ls))]) (st := []) kvX7_210 (t_X7_orderLists l h S sv hC ls l0 l1) (by decide) g0 rfl (Nat.le_of_ble_eq_true rfl) ⟨(Nat.le_of_ble_eq_true rfl), (Nat.le_of_ble_eq_true rfl)⟩ ⟨(Nat.le_of_ble_eq_true rfl), (Nat.le_of_ble_eq_true rfl)⟩ rfl rfl dX7_findIntersection_2 rfl (fun v h1 hp => ?_)
  obtain ⟨rfl, od, d1, d2, d3⟩ := hp
  have hC1 : CRep h1 S sv := crep_or hC d1 ((d3 89 (by decide)).trans g13) (fun j hj => d3 j (by omega))
  obtain ⟨e0, e1, -⟩ := id hC1
  have hk := d2 0 (by omega) (by omega)
  refine g_istore_n (q := 6) (al2 := [some (.ref (0)), some (.int (iI (ls))), some (.int (iI (ordn S ls))), none, none, none, none, none]) rfl (by decide) rfl rfl dX7_findIntersection_5 rfl ?_
  refine g_aload_n (q := 7) rfl rfl dX7_findIntersection_6 rfl ?_
  refine g_get (q := 10) fX7_37r (by decide) e0 rfl dX7_findIntersection_7 rfl ?_
  refine g_iconst (q := 11) dX7_findIntersection_10 rfl ?_
  refine g_iaload (q := 12) (by decide) d1 (by decide) (by decide) (by decide) dX7_findIntersection_11 rfl ?_
  rw [hk, hq]
  refine g_istore_n (q := 13) (al2 := [some (.ref (0)), some (.int (iI (ls))), some (.int (iI (ordn S ls))), some (.int (iI ((q : Int)))), none, none, none, none]) rfl (by decide) rfl rfl dX7_findIntersection_12 rfl ?_
  refine g_iconst (q := 14) dX7_findIntersection_13 rfl ?_
  refine g_istore (q := 16) (al2 := [some (.ref (0)), some (.int (iI (ls))), some (.int (iI (ordn S ls))), some (.int (iI ((q : Int)))), some (.int (iI (0))), none, none, none]) (by decide) rfl rfl dX7_findIntersection_14 rfl ?_
  refine g_aload_n (q := 17) rfl rfl dX7_findIntersection_16 rfl ?_
  refine g_get (q := 20) fX7_12r (by decide) e0 rfl dX7_findIntersection_17 rfl ?_
  refine g_iload_n (q := 21) rfl rfl dX7_findIntersection_20 rfl ?_
  refine g_iconst (q := 22) dX7_findIntersection_21 rfl ?_
  refine g_Vw (q := 25) (d' := 4) (i := 1) (av := [.int (iI ((q : Int))), .int (iI (0))]) (st := []) kvX7_129 (t_X6_query l h1 1 q S (crep_SA hC1) hq4 0 (by decide) (by decide)) (by decide) e1 rfl (Nat.le_of_ble_eq_true rfl) ⟨(Nat.le_of_ble_eq_true rfl), (Nat.le_of_ble_eq_true rfl)⟩ ⟨(Nat.le_of_ble_eq_true rfl), (Nat.le_of_ble_eq_true rfl)⟩ rfl rfl dX7_findIntersection_22 rfl (fun v h2 hp => ?_)
  obtain ⟨rfl, p1, p2⟩ := hp
  have hC2 := crep_of hC1 p1 p2
  have ei : isc0 S ls = ((qry S q 0).1, 0, fun _ => 0, (qry S q 0).2) := by unfold isc0; rw [hqt]
  have hF0 := FI0 hLS n1
  rw [ei] at hF0
  refine g_istore (q := 27) (al2 := [some (.ref (0)), some (.int (iI (ls))), some (.int (iI (ordn S ls))), some (.int (iI ((q : Int)))), some (.int (iI (0))), some (.int (iI ((qry S q 0).1))), none, none]) (by decide) rfl rfl dX7_findIntersection_25 rfl ?_
  refine g_iconst (q := 28) dX7_findIntersection_27 rfl ?_
  refine g_istore (q := 30) (al2 := [some (.ref (0)), some (.int (iI (ls))), some (.int (iI (ordn S ls))), some (.int (iI ((q : Int)))), some (.int (iI (0))), some (.int (iI ((qry S q 0).1))), some (.int (iI (0))), none]) (by decide) rfl rfl dX7_findIntersection_28 rfl ?_
  refine loopG (σ := Int × FSt × (Int → Int) × EHp) (P := fun zz => match zz with | (r, s, rs, h3) => G l noX mX7_findIntersection 6 0 0 (wP (fun v h' => v = .int (iI (isc S ls).2.1) ∧ CRep h' (isc S ls).2.2.2 sv ∧ (∃ rs, h' 89 = cI 128 rs ∧ Ag (isc S ls).2.1 rs (isc S ls).2.2.1) ∧ FrC h h')) 0 0 30 [some (.ref (0)), some (.int (iI (ls))), some (.int (iI (ordn S ls))), some (.int (iI (q))), some (.int (iI (s.2.1))), some (.int (iI (s.1))), some (.int (iI (r))), none] [] NN h3) (I := fun zz => match zz with | (r, s, rs, h3) => 0 ≤ r ∧ r ≤ 64 ∧ FI S.1 (ordf S ls) r s ∧ fnd (ordf S ls) (ordn S ls) (64 - r).toNat s = isc S ls ∧ CRep h3 s.2.2.2 sv ∧ h3 89 = cI 128 rs ∧ Ag s.2.1 rs s.2.2.1 ∧ h3 88 = cI 4 od ∧ FrC h h3) (fun zz => match zz with | (r, s, rs, h3) => (64 - r).toNat) ?_ (0, ((qry S q 0).1, 0, fun _ => 0, (qry S q 0).2), rs0, h2) ⟨Int.le_refl _, by omega, hF0, by unfold isc; rw [ei]; rfl, hC2, (p2 89 (by omega)).trans ((d3 89 (by decide)).trans g13), fun t a b => by have : t < 0 := b; omega, (p2 88 (by omega)).trans d1, fun j hj => (p2 j (by omega)).trans (d3 j (by omega))⟩
  rintro ⟨r, s, rs, h3⟩ hI ih
  obtain ⟨r0, r6, hF, ef, hC3, hr, ha, hod, fr⟩ := hI
  have hcd := hF.cand (hLS _ (by omega))
  obtain ⟨f1, -, -, f4, f5, -, -⟩ := id hF
  obtain ⟨i0, i1, -⟩ := id hC3
  have hc1 : s.1 = -1 ∨ (0 ≤ s.1 ∧ s.1 ≤ 511 ∧ r < 64) := by
    by_cases z : s.1 = -1
    · exact Or.inl z
    · exact Or.inr (hcd z)
  refine g_iload (q := 32) rfl dX7_findIntersection_30 rfl ?_
  refine g_bipush (q := 34) (by decide) dX7_findIntersection_32 rfl ?_
  refine g_icmp_ge (t := 119) (q := 37) ⟨by omega, by omega⟩ ⟨by omega, by omega⟩ dX7_findIntersection_34 rfl rfl (fun c34 => ?_) (fun c34 => ?_)
  · have ee : fnd (ordf S ls) (ordn S ls) (64 - r).toNat s = s := fnd_e (by omega) _
    rw [ee] at ef
    refine g_iload (q := 121) rfl dX7_findIntersection_119 rfl ?_
    exact g_ireturn (fun z => NN_f z) (Nat.le_of_ble_eq_true rfl) (Nat.le_of_ble_eq_true rfl) dX7_findIntersection_121 rfl (wP_in ⟨by rw [← ef], by rw [← ef]; exact hC3, ⟨rs, hr, by rw [← ef]; exact ha⟩, fr⟩)
  · refine g_iload (q := 39) rfl dX7_findIntersection_37 rfl ?_
    refine g_iconst (q := 40) dX7_findIntersection_39 rfl ?_
    refine g_icmp_eq (t := 119) (q := 43) ⟨by omega, by omega⟩ ⟨by omega, by omega⟩ dX7_findIntersection_40 rfl rfl (fun c40 => ?_) (fun c40 => ?_)
    · have ee : fnd (ordf S ls) (ordn S ls) (64 - r).toNat s = s := fnd_e (by omega) _
      rw [ee] at ef
      refine g_iload (q := 121) rfl dX7_findIntersection_119 rfl ?_
      exact g_ireturn (fun z => NN_f z) (Nat.le_of_ble_eq_true rfl) (Nat.le_of_ble_eq_true rfl) dX7_findIntersection_121 rfl (wP_in ⟨by rw [← ef], by rw [← ef]; exact hC3, ⟨rs, hr, by rw [← ef]; exact ha⟩, fr⟩)
    · have hn : s.1 ≠ -1 := by omega
      obtain ⟨y, S1, hR⟩ : ∃ y S1, ask (ordf S ls) s.1 ((ordn S ls) - 1).toNat 1 s.1 s.2.2.2 = (y, S1) := ⟨_, _, rfl⟩
      have yr := ask_rng (o := ordf S ls) (cand := s.1) (by omega) (by omega) ((ordn S ls) - 1).toNat 1 s.1 s.2.2.2 (crep_LS hC3) (fun t a b => ho t (by omega) (by omega)) (Or.inr ⟨Int.le_refl _, by omega⟩)
      have sl := ask_lists (o := ordf S ls) (cand := s.1) ((ordn S ls) - 1).toNat 1 s.1 s.2.2.2
      rw [hR] at yr sl
      simp only [] at yr sl
      have hF1 := hF.step hLS ho n1 hn
      have et : stp (ordf S ls) (ordn S ls) s = stp2 (ordf S ls) s.1 s.2.1 s.2.2.1 (y, S1) := by unfold stp; rw [hR]
      have ef1 : fnd (ordf S ls) (ordn S ls) (64 - (r + 1)).toNat (stp (ordf S ls) (ordn S ls) s) = isc S ls := by rw [← fnd_s hn, show (64 - (r + 1)).toNat + 1 = (64 - r).toNat by omega]; exact ef
      refine g_aload_n (q := 44) rfl rfl dX7_findIntersection_43 rfl ?_
      refine g_iload (q := 46) rfl dX7_findIntersection_44 rfl ?_
      refine g_iload_n (q := 47) rfl rfl dX7_findIntersection_46 rfl ?_
      refine g_Vw (q := 50) (d' := 5) (i := 0) (av := [.int (iI (s.1)), .int (iI (ordn S ls))]) (st := []) kvX7_213 (t_X7_askOthers l h3 s.2.2.2 sv hC3 (ordf S ls) od (ordn S ls) s.1 (by omega) (by omega) n1 n4 ho hod d2) (by decide) i0 rfl (Nat.le_of_ble_eq_true rfl) ⟨(Nat.le_of_ble_eq_true rfl), (Nat.le_of_ble_eq_true rfl)⟩ ⟨(Nat.le_of_ble_eq_true rfl), (Nat.le_of_ble_eq_true rfl)⟩ rfl rfl dX7_findIntersection_47 rfl (fun v h4 hp => ?_)
      rw [hR] at hp
      obtain ⟨rfl, p3, p4⟩ := hp
      have p3b : CRep h4 S1 sv := p3
      obtain ⟨j0, j1, -⟩ := id p3b
      have hr4 : h4 89 = _ := (p4 89 (by omega)).trans hr
      have hod4 : h4 88 = _ := (p4 88 (by omega)).trans hod
      refine g_istore (q := 52) (al2 := [some (.ref (0)), some (.int (iI (ls))), some (.int (iI (ordn S ls))), some (.int (iI (q))), some (.int (iI (s.2.1))), some (.int (iI (s.1))), some (.int (iI (r))), some (.int (iI (y)))]) (by decide) rfl rfl dX7_findIntersection_50 rfl ?_
      refine g_iload (q := 54) rfl dX7_findIntersection_52 rfl ?_
      refine g_iload (q := 56) rfl dX7_findIntersection_54 rfl ?_
      refine g_icmp_ne (t := 91) (q := 59) ⟨by omega, by omega⟩ ⟨by omega, by omega⟩ dX7_findIntersection_56 rfl rfl (fun c56 => ?_) (fun c56 => ?_)
      · have en : nxC s.1 y = y := by unfold nxC; rw [if_neg (by omega)]
        refine g_iload (q := 93) rfl dX7_findIntersection_91 rfl ?_
        refine g_iconst (q := 94) dX7_findIntersection_93 rfl ?_
        refine g_icmp_ne (t := 101) (q := 97) ⟨by omega, by omega⟩ ⟨by omega, by omega⟩ dX7_findIntersection_94 rfl rfl (fun c94 => ?_) (fun c94 => ?_)
        · refine g_aload_n (q := 102) rfl rfl dX7_findIntersection_101 rfl ?_
          refine g_get (q := 105) fX7_12r (by decide) j0 rfl dX7_findIntersection_102 rfl ?_
          refine g_iload_n (q := 106) rfl rfl dX7_findIntersection_105 rfl ?_
          refine g_iload (q := 108) rfl dX7_findIntersection_106 rfl ?_
          have cz : ¬ y = -1 := by omega
          have cy : ¬ y = s.1 := by omega
          refine g_Vw (q := 111) (d' := 4) (i := 1) (av := [.int (iI (q)), .int (iI (y))]) (st := []) kvX7_129 (t_X6_query l h4 1 q S1 (crep_SA p3b) hq4 (y) (by omega) (by omega)) (by decide) j1 rfl (Nat.le_of_ble_eq_true rfl) ⟨(Nat.le_of_ble_eq_true rfl), (Nat.le_of_ble_eq_true rfl)⟩ ⟨(Nat.le_of_ble_eq_true rfl), (Nat.le_of_ble_eq_true rfl)⟩ rfl rfl dX7_findIntersection_108 rfl (fun v h6 hp6 => ?_)
          obtain ⟨rfl, p5, p6⟩ := hp6
          refine g_istore (q := 113) (al2 := [some (.ref (0)), some (.int (iI (ls))), some (.int (iI (ordn S ls))), some (.int (iI (q))), some (.int (iI (s.2.1))), some (.int (iI ((qry S1 q (y)).1))), some (.int (iI (r))), some (.int (iI (y)))]) (by decide) rfl rfl dX7_findIntersection_111 rfl ?_
          refine g_iinc (q := 116) (al2 := [some (.ref (0)), some (.int (iI (ls))), some (.int (iI (ordn S ls))), some (.int (iI (q))), some (.int (iI (s.2.1))), some (.int (iI ((qry S1 q (y)).1))), some (.int (iI (r + 1))), some (.int (iI (y)))]) rfl (by decide) rfl rfl dX7_findIntersection_113 rfl ?_
          refine g_goto (q := 30) dX7_findIntersection_116 rfl ?_
          refine g_drop (al2 := [some (.ref (0)), some (.int (iI (ls))), some (.int (iI (ordn S ls))), some (.int (iI (q))), some (.int (iI (s.2.1))), some (.int (iI ((qry S1 q (y)).1))), some (.int (iI (r + 1))), none]) 7 rfl ?_
          have es : stp (ordf S ls) (ordn S ls) s = ((qry S1 q (y)).1, s.2.1, s.2.2.1, (qry S1 q (y)).2) := by rw [et]; unfold stp2; simp only []; simp only [en, if_neg cz, if_neg cy, hqt]
          rw [es] at hF1 ef1
          exact ih (r + 1, ((qry S1 q (y)).1, s.2.1, s.2.2.1, (qry S1 q (y)).2), rs, h6) ⟨by omega, by omega, hF1, ef1, crep_of p3b p5 p6, (p6 89 (by omega)).trans hr4, ha, (p6 88 (by omega)).trans hod4, fun j hj => (p6 j (by omega)).trans ((p4 j (by omega)).trans (fr j hj))⟩ (by show (64 - (r + 1)).toNat < (64 - r).toNat; omega)
        · refine g_iconst (q := 98) dX7_findIntersection_97 rfl ?_
          refine g_goto (q := 111) dX7_findIntersection_98 rfl ?_
          refine g_istore (q := 113) (al2 := [some (.ref (0)), some (.int (iI (ls))), some (.int (iI (ordn S ls))), some (.int (iI (q))), some (.int (iI (s.2.1))), some (.int (iI (-1))), some (.int (iI (r))), some (.int (iI (y)))]) (by decide) rfl rfl dX7_findIntersection_111 rfl ?_
          refine g_iinc (q := 116) (al2 := [some (.ref (0)), some (.int (iI (ls))), some (.int (iI (ordn S ls))), some (.int (iI (q))), some (.int (iI (s.2.1))), some (.int (iI (-1))), some (.int (iI (r + 1))), some (.int (iI (y)))]) rfl (by decide) rfl rfl dX7_findIntersection_113 rfl ?_
          refine g_goto (q := 30) dX7_findIntersection_116 rfl ?_
          refine g_drop (al2 := [some (.ref (0)), some (.int (iI (ls))), some (.int (iI (ordn S ls))), some (.int (iI (q))), some (.int (iI (s.2.1))), some (.int (iI (-1))), some (.int (iI (r + 1))), none]) 7 rfl ?_
          have cz : y = -1 := by omega
          have cy : ¬ y = s.1 := by omega
          have es : stp (ordf S ls) (ordn S ls) s = (-1, s.2.1, s.2.2.1, S1) := by rw [et]; unfold stp2; simp only []; simp only [en, if_pos cz, if_neg cy]
          rw [es] at hF1 ef1
          exact ih (r + 1, (-1, s.2.1, s.2.2.1, S1), rs, h4) ⟨by omega, by omega, hF1, ef1, p3b, hr4, ha, hod4, fun j hj => (p4 j (by omega)).trans (fr j hj)⟩ (by show (64 - (r + 1)).toNat < (64 - r).toNat; omega)
      · refine g_aload_n (q := 60) rfl rfl dX7_findIntersection_59 rfl ?_
        refine g_get (q := 63) fX7_41r (by decide) j0 rfl dX7_findIntersection_60 rfl ?_
        refine g_iload (q := 65) rfl dX7_findIntersection_63 rfl ?_
        refine g_iload (q := 67) rfl dX7_findIntersection_65 rfl ?_
        refine g_iastore (q := 68) (by decide) hr4 (by omega) (by omega) (by decide) dX7_findIntersection_67 rfl ?_
        refine hp_in (fun hh1 ehh1 => ?_)
        have fc2 : hh1 0 = cO 6 [.ref (1), .ref (17), .ref (83), .ref (86), .ref (88), .ref (89)] := by rw [ehh1, ueh_n (by decide)]; exact j0
        have fc3 : hh1 1 = cO 5 [.ref (2), .ref (3), .int (iI (S1.2.2.2.1)), .int (iI (S1.2.2.2.2))] := by rw [ehh1, ueh_n (by decide)]; exact j1
        have fc4 : hh1 88 = cI 4 od := by rw [ehh1, ueh_n (by decide)]; exact hod4
        have fc5 : hh1 89 = cI 128 (ui rs s.2.1 s.1) := by rw [ehh1]; exact ueh_s
        refine g_iinc (q := 71) (al2 := [some (.ref (0)), some (.int (iI (ls))), some (.int (iI (ordn S ls))), some (.int (iI (q))), some (.int (iI (s.2.1 + 1))), some (.int (iI (s.1))), some (.int (iI (r))), some (.int (iI (y)))]) rfl (by decide) rfl rfl dX7_findIntersection_68 rfl ?_
        refine g_iload (q := 73) rfl dX7_findIntersection_71 rfl ?_
        refine g_iconst (q := 74) dX7_findIntersection_73 rfl ?_
        refine g_iadd (q := 75) dX7_findIntersection_74 rfl ?_
        refine g_sipush (q := 78) (by decide) dX7_findIntersection_75 rfl ?_
        refine g_icmp_ge (t := 88) (q := 81) ⟨by omega, by omega⟩ ⟨by omega, by omega⟩ dX7_findIntersection_78 rfl rfl (fun c78 => ?_) (fun c78 => ?_)
        · refine g_iconst (q := 89) dX7_findIntersection_88 rfl ?_
          refine g_istore (q := 91) (al2 := [some (.ref (0)), some (.int (iI (ls))), some (.int (iI (ordn S ls))), some (.int (iI (q))), some (.int (iI (s.2.1 + 1))), some (.int (iI (s.1))), some (.int (iI (r))), some (.int (iI (-1)))]) (by decide) rfl rfl dX7_findIntersection_89 rfl ?_
          have en : nxC s.1 y = -1 := by unfold nxC; rw [if_pos (by omega), if_neg (by omega)]
          have hC5 : CRep hh1 S1 sv := crep_or p3b fc4 fc5 (fun j hj => by rw [ehh1, ueh_n (by omega)])
          refine g_iload (q := 93) rfl dX7_findIntersection_91 rfl ?_
          refine g_iconst (q := 94) dX7_findIntersection_93 rfl ?_
          refine g_icmp_ne (t := 101) (q := 97) ⟨by omega, by omega⟩ ⟨by omega, by omega⟩ dX7_findIntersection_94 rfl rfl (fun c94 => ?_) (fun c94 => ?_)
          · omega
          · refine g_iconst (q := 98) dX7_findIntersection_97 rfl ?_
            refine g_goto (q := 111) dX7_findIntersection_98 rfl ?_
            refine g_istore (q := 113) (al2 := [some (.ref (0)), some (.int (iI (ls))), some (.int (iI (ordn S ls))), some (.int (iI (q))), some (.int (iI (s.2.1 + 1))), some (.int (iI (-1))), some (.int (iI (r))), some (.int (iI (-1)))]) (by decide) rfl rfl dX7_findIntersection_111 rfl ?_
            refine g_iinc (q := 116) (al2 := [some (.ref (0)), some (.int (iI (ls))), some (.int (iI (ordn S ls))), some (.int (iI (q))), some (.int (iI (s.2.1 + 1))), some (.int (iI (-1))), some (.int (iI (r + 1))), some (.int (iI (-1)))]) rfl (by decide) rfl rfl dX7_findIntersection_113 rfl ?_
            refine g_goto (q := 30) dX7_findIntersection_116 rfl ?_
            refine g_drop (al2 := [some (.ref (0)), some (.int (iI (ls))), some (.int (iI (ordn S ls))), some (.int (iI (q))), some (.int (iI (s.2.1 + 1))), some (.int (iI (-1))), some (.int (iI (r + 1))), none]) 7 rfl ?_
            have cz : -1 = -1 := by omega
            have cy : y = s.1 := by omega
            have es : stp (ordf S ls) (ordn S ls) s = (-1, s.2.1 + 1, ui s.2.2.1 s.2.1 s.1, S1) := by rw [et]; unfold stp2; simp only []; simp only [en, if_pos cz, if_pos cy, if_true]
            rw [es] at hF1 ef1
            exact ih (r + 1, (-1, s.2.1 + 1, ui s.2.2.1 s.2.1 s.1, S1), ui rs s.2.1 s.1, hh1) ⟨by omega, by omega, hF1, ef1, hC5, fc5, ag_ui ha _, fc4, fun j hj => by rw [ehh1, ueh_n (by omega)]; exact (p4 j (by omega)).trans (fr j hj)⟩ (by show (64 - (r + 1)).toNat < (64 - r).toNat; omega)
        · refine g_iload (q := 83) rfl dX7_findIntersection_81 rfl ?_
          refine g_iconst (q := 84) dX7_findIntersection_83 rfl ?_
          refine g_iadd (q := 85) dX7_findIntersection_84 rfl ?_
          refine g_goto (q := 89) dX7_findIntersection_85 rfl ?_
          refine g_istore (q := 91) (al2 := [some (.ref (0)), some (.int (iI (ls))), some (.int (iI (ordn S ls))), some (.int (iI (q))), some (.int (iI (s.2.1 + 1))), some (.int (iI (s.1))), some (.int (iI (r))), some (.int (iI (s.1 + 1)))]) (by decide) rfl rfl dX7_findIntersection_89 rfl ?_
          have en : nxC s.1 y = s.1 + 1 := by unfold nxC; rw [if_pos (by omega), if_pos (by omega)]
          have hC5 : CRep hh1 S1 sv := crep_or p3b fc4 fc5 (fun j hj => by rw [ehh1, ueh_n (by omega)])
          refine g_iload (q := 93) rfl dX7_findIntersection_91 rfl ?_
          refine g_iconst (q := 94) dX7_findIntersection_93 rfl ?_
          refine g_icmp_ne (t := 101) (q := 97) ⟨by omega, by omega⟩ ⟨by omega, by omega⟩ dX7_findIntersection_94 rfl rfl (fun c94 => ?_) (fun c94 => ?_)
          · refine g_aload_n (q := 102) rfl rfl dX7_findIntersection_101 rfl ?_
            refine g_get (q := 105) fX7_12r (by decide) fc2 rfl dX7_findIntersection_102 rfl ?_
            refine g_iload_n (q := 106) rfl rfl dX7_findIntersection_105 rfl ?_
            refine g_iload (q := 108) rfl dX7_findIntersection_106 rfl ?_
            have cz : ¬ s.1 + 1 = -1 := by omega
            have cy : y = s.1 := by omega
            refine g_Vw (q := 111) (d' := 4) (i := 1) (av := [.int (iI (q)), .int (iI (s.1 + 1))]) (st := []) kvX7_129 (t_X6_query l hh1 1 q S1 (crep_SA hC5) hq4 (s.1 + 1) (by omega) (by omega)) (by decide) fc3 rfl (Nat.le_of_ble_eq_true rfl) ⟨(Nat.le_of_ble_eq_true rfl), (Nat.le_of_ble_eq_true rfl)⟩ ⟨(Nat.le_of_ble_eq_true rfl), (Nat.le_of_ble_eq_true rfl)⟩ rfl rfl dX7_findIntersection_108 rfl (fun v h6 hp6 => ?_)
            obtain ⟨rfl, p5, p6⟩ := hp6
            refine g_istore (q := 113) (al2 := [some (.ref (0)), some (.int (iI (ls))), some (.int (iI (ordn S ls))), some (.int (iI (q))), some (.int (iI (s.2.1 + 1))), some (.int (iI ((qry S1 q (s.1 + 1)).1))), some (.int (iI (r))), some (.int (iI (s.1 + 1)))]) (by decide) rfl rfl dX7_findIntersection_111 rfl ?_
            refine g_iinc (q := 116) (al2 := [some (.ref (0)), some (.int (iI (ls))), some (.int (iI (ordn S ls))), some (.int (iI (q))), some (.int (iI (s.2.1 + 1))), some (.int (iI ((qry S1 q (s.1 + 1)).1))), some (.int (iI (r + 1))), some (.int (iI (s.1 + 1)))]) rfl (by decide) rfl rfl dX7_findIntersection_113 rfl ?_
            refine g_goto (q := 30) dX7_findIntersection_116 rfl ?_
            refine g_drop (al2 := [some (.ref (0)), some (.int (iI (ls))), some (.int (iI (ordn S ls))), some (.int (iI (q))), some (.int (iI (s.2.1 + 1))), some (.int (iI ((qry S1 q (s.1 + 1)).1))), some (.int (iI (r + 1))), none]) 7 rfl ?_
            have es : stp (ordf S ls) (ordn S ls) s = ((qry S1 q (s.1 + 1)).1, s.2.1 + 1, ui s.2.2.1 s.2.1 s.1, (qry S1 q (s.1 + 1)).2) := by rw [et]; unfold stp2; simp only []; simp only [en, if_neg cz, if_pos cy, hqt]
            rw [es] at hF1 ef1
            exact ih (r + 1, ((qry S1 q (s.1 + 1)).1, s.2.1 + 1, ui s.2.2.1 s.2.1 s.1, (qry S1 q (s.1 + 1)).2), ui rs s.2.1 s.1, h6) ⟨by omega, by omega, hF1, ef1, crep_of hC5 p5 p6, (p6 89 (by omega)).trans fc5, ag_ui ha _, (p6 88 (by omega)).trans fc4, fun j hj => (p6 j (by omega)).trans (by rw [ehh1, ueh_n (by omega)]; exact (p4 j (by omega)).trans (fr j hj))⟩ (by show (64 - (r + 1)).toNat < (64 - r).toNat; omega)
          · omega
set_option maxRecDepth 4000 in
theorem t_X7_countIntersection (l : Launch) (h : EHp) (S : ASt) (sv : List ASt) (hC : CRep h S sv) (ls : Int) (l0 : 1 ≤ ls) (l1 : ls ≤ 15) : CT l mX7_countIntersection 8 0 0 [.ref (0), .int (iI (ls))] NN h (wP (fun v h' => v = .int (iI (isc S ls).2.1) ∧ CRep h' (isc S ls).2.2.2 (push4 S sv) ∧ FrC h h')) := by
  obtain ⟨g0, k1, k2, k4, k5, -⟩ := id hC
  obtain ⟨-, -, -, -, -, ⟨nx, hH⟩, -⟩ := id hC
  obtain ⟨T9, hG, -⟩ := id hH
  refine CT.of (by decide) (Nat.le_of_ble_eq_true rfl) ?_
  refine g_al (al2 := [some (.ref (0)), some (.int (iI (ls)))]) rfl ?_
  refine g_iload_n (q := 1) rfl rfl dX7_countIntersection_0 rfl ?_
  refine g_Sv (q := 4) (d' := 7) (av := [.int (iI (ls))]) (st := []) ksX7_132 (t_X7_requireSet l h ls l0 l1) rfl (Nat.le_of_ble_eq_true rfl) ⟨(Nat.le_of_ble_eq_true rfl), (Nat.le_of_ble_eq_true rfl)⟩ ⟨(Nat.le_of_ble_eq_true rfl), (Nat.le_of_ble_eq_true rfl)⟩ rfl rfl dX7_countIntersection_1 rfl (fun hq1 eq2 => ?_)
  rw [eq2]
  refine g_aload_n (q := 5) rfl rfl dX7_countIntersection_4 rfl ?_
  refine g_get (q := 8) fX7_19r (by decide) g0 rfl dX7_countIntersection_5 rfl ?_
  refine g_aload_n (q := 9) rfl rfl dX7_countIntersection_8 rfl ?_
  refine g_get (q := 12) fX7_12r (by decide) g0 rfl dX7_countIntersection_9 rfl ?_
  refine g_Vv (q := 15) (d' := 3) (i := 17) (av := [.ref (1)]) (st := []) kvX7_78 (t_X2_save l h 17 nx 1 sv S hH (crep_SA hC) (by omega)) (by decide) hG rfl (Nat.le_of_ble_eq_true rfl) ⟨(Nat.le_of_ble_eq_true rfl), (Nat.le_of_ble_eq_true rfl)⟩ ⟨(Nat.le_of_ble_eq_true rfl), (Nat.le_of_ble_eq_true rfl)⟩ rfl rfl dX7_countIntersection_12 rfl (fun h1 hsv => ?_)
  obtain ⟨sv1, sv2⟩ := hsv
  have hC1 : CRep h1 S (push4 S sv) := crep_sv hC sv1 sv2
  obtain ⟨n0, n1, n2, n4, n5, -⟩ := id hC1
  refine g_aload_n (q := 16) rfl rfl dX7_countIntersection_15 rfl ?_
  refine g_iload_n (q := 17) rfl rfl dX7_countIntersection_16 rfl ?_
  refine g_Vw (q := 20) (d' := 6) (i := 0) (av := [.int (iI (ls))]) (st := []) kvX7_135 (t_X7_findIntersection l h1 S (push4 S sv) hC1 ls l0 l1) (by decide) n0 rfl (Nat.le_of_ble_eq_true rfl) ⟨(Nat.le_of_ble_eq_true rfl), (Nat.le_of_ble_eq_true rfl)⟩ ⟨(Nat.le_of_ble_eq_true rfl), (Nat.le_of_ble_eq_true rfl)⟩ rfl rfl dX7_countIntersection_17 rfl (fun v h2 hp => ?_)
  obtain ⟨rfl, p1, p2, p3⟩ := hp
  exact g_ireturn (fun z => NN_f z) (Nat.le_of_ble_eq_true rfl) (Nat.le_of_ble_eq_true rfl) dX7_countIntersection_20 rfl (wP_in ⟨rfl, p1, fun j hj => (p3 j hj).trans (sv2 j (by omega))⟩)
set_option maxRecDepth 4000 in
theorem x_X7_countIntersection (l : Launch) (h : EHp) (S : ASt) (sv : List ASt) (hC : CRep h S sv) (ls : Int) (hi : IR ls) (h0 : ls < 1 ∨ 15 < ls) : CT l mX7_countIntersection 8 1 6 [.ref (0), .int (iI (ls))] NN h (xP eIA (fun h' => h' = h)) := by
  obtain ⟨g0, k1, k2, k4, k5, -⟩ := id hC
  refine CT.of (by decide) (Nat.le_of_ble_eq_true rfl) ?_
  refine g_al (al2 := [some (.ref (0)), some (.int (iI (ls)))]) rfl ?_
  refine g_iload_n (q := 1) rfl rfl dX7_countIntersection_0 rfl ?_
  exact g_Sx (d' := 7) (av := [.int (iI (ls))]) (st := []) ksX7_132 (x_X7_requireSet l h ls hi h0) rfl (Nat.le_of_ble_eq_true rfl) ⟨(Nat.le_of_ble_eq_true rfl), (Nat.le_of_ble_eq_true rfl)⟩ ⟨(Nat.le_of_ble_eq_true rfl), (Nat.le_of_ble_eq_true rfl)⟩ rfl rfl dX7_countIntersection_1 (fun h2 z => xP_in z)
set_option maxRecDepth 4000 in
theorem t_X7_intersect (l : Launch) (h : EHp) (S : ASt) (sv : List ASt) (hC : CRep h S sv) (ls : Int) (l0 : 1 ≤ ls) (l1 : ls ≤ 15) (t : Nat) (ht : t < 4) : CT l mX7_intersect 8 0 0 [.ref (0), .int (iI (ls)), .int (iI (t))] NN h (wP (fun v h' => v = .int (iI (isc S ls).2.1) ∧ CRep h' (wrL (isc S ls).2.2.2 t (isc S ls).2.1 (isc S ls).2.2.1) (push4 S sv) ∧ FrC h h')) := by
  obtain ⟨g0, k1, k2, k4, k5, -⟩ := id hC
  obtain ⟨-, -, -, -, -, ⟨nx, hH⟩, -⟩ := id hC
  obtain ⟨T9, hG, -⟩ := id hH
  have hLS := crep_LS hC
  have hLO := isc_LOk hLS (ord_pos l0 l1 hLS)
  refine CT.of (by decide) (Nat.le_of_ble_eq_true rfl) ?_
  refine g_al (al2 := [some (.ref (0)), some (.int (iI (ls))), some (.int (iI (t)))]) rfl ?_
  refine g_iload_n (q := 1) rfl rfl dX7_intersect_0 rfl ?_
  refine g_Sv (q := 4) (d' := 7) (av := [.int (iI (ls))]) (st := []) ksX7_132 (t_X7_requireSet l h ls l0 l1) rfl (Nat.le_of_ble_eq_true rfl) ⟨(Nat.le_of_ble_eq_true rfl), (Nat.le_of_ble_eq_true rfl)⟩ ⟨(Nat.le_of_ble_eq_true rfl), (Nat.le_of_ble_eq_true rfl)⟩ rfl rfl dX7_intersect_1 rfl (fun hq1 eq2 => ?_)
  rw [eq2]
  refine g_iload_n (q := 5) rfl rfl dX7_intersect_4 rfl ?_
  refine g_Sv (q := 8) (d' := 7) (av := [.int (iI (t))]) (st := []) ksX7_126 (t_X7_requireList l h t (by omega) (by omega)) rfl (Nat.le_of_ble_eq_true rfl) ⟨(Nat.le_of_ble_eq_true rfl), (Nat.le_of_ble_eq_true rfl)⟩ ⟨(Nat.le_of_ble_eq_true rfl), (Nat.le_of_ble_eq_true rfl)⟩ rfl rfl dX7_intersect_5 rfl (fun hq3 eq4 => ?_)
  rw [eq4]
  refine g_aload_n (q := 9) rfl rfl dX7_intersect_8 rfl ?_
  refine g_get (q := 12) fX7_19r (by decide) g0 rfl dX7_intersect_9 rfl ?_
  refine g_aload_n (q := 13) rfl rfl dX7_intersect_12 rfl ?_
  refine g_get (q := 16) fX7_12r (by decide) g0 rfl dX7_intersect_13 rfl ?_
  refine g_Vv (q := 19) (d' := 3) (i := 17) (av := [.ref (1)]) (st := []) kvX7_78 (t_X2_save l h 17 nx 1 sv S hH (crep_SA hC) (by omega)) (by decide) hG rfl (Nat.le_of_ble_eq_true rfl) ⟨(Nat.le_of_ble_eq_true rfl), (Nat.le_of_ble_eq_true rfl)⟩ ⟨(Nat.le_of_ble_eq_true rfl), (Nat.le_of_ble_eq_true rfl)⟩ rfl rfl dX7_intersect_16 rfl (fun h1 hsv => ?_)
  obtain ⟨sv1, sv2⟩ := hsv
  have hC1 : CRep h1 S (push4 S sv) := crep_sv hC sv1 sv2
  obtain ⟨n0, n1, n2, n4, n5, -⟩ := id hC1
  refine g_aload_n (q := 20) rfl rfl dX7_intersect_19 rfl ?_
  refine g_iload_n (q := 21) rfl rfl dX7_intersect_20 rfl ?_
  refine g_aload_n (q := 22) rfl rfl dX7_intersect_21 rfl ?_
  refine g_iload_n (q := 23) rfl rfl dX7_intersect_22 rfl ?_
  refine g_Vw (q := 26) (d' := 6) (i := 0) (av := [.int (iI (ls))]) (st := [.int (iI (t)), .ref (0)]) kvX7_135 (t_X7_findIntersection l h1 S (push4 S sv) hC1 ls l0 l1) (by decide) n0 rfl (Nat.le_of_ble_eq_true rfl) ⟨(Nat.le_of_ble_eq_true rfl), (Nat.le_of_ble_eq_true rfl)⟩ ⟨(Nat.le_of_ble_eq_true rfl), (Nat.le_of_ble_eq_true rfl)⟩ rfl rfl dX7_intersect_23 rfl (fun v h2 hp => ?_)
  obtain ⟨rfl, p1, ⟨rs, p2, p4⟩, p3⟩ := hp
  obtain ⟨i0, -⟩ := id p1
  refine g_Vw (q := 29) (d' := 5) (i := 0) (av := [.int (iI (t)), .int (iI ((isc S ls).2.1))]) (st := []) kvX7_89 (t_X7_writeResult l h2 (isc S ls).2.2.2 (push4 S sv) t ht p1 rs (isc S ls).2.2.1 (isc S ls).2.1 p2 hLO p4) (by decide) i0 rfl (Nat.le_of_ble_eq_true rfl) ⟨(Nat.le_of_ble_eq_true rfl), (Nat.le_of_ble_eq_true rfl)⟩ ⟨(Nat.le_of_ble_eq_true rfl), (Nat.le_of_ble_eq_true rfl)⟩ rfl rfl dX7_intersect_26 rfl (fun v h3 hp => ?_)
  obtain ⟨rfl, p5, p6⟩ := hp
  exact g_ireturn (fun z => NN_f z) (Nat.le_of_ble_eq_true rfl) (Nat.le_of_ble_eq_true rfl) dX7_intersect_29 rfl (wP_in ⟨rfl, p5, fun j hj => (p6 j hj).trans ((p3 j hj).trans (sv2 j (by omega)))⟩)
set_option maxRecDepth 4000 in
theorem x_X7_intersect (l : Launch) (h : EHp) (S : ASt) (sv : List ASt) (hC : CRep h S sv) (ls t : Int) (hi : IR ls) (h0 : ls < 1 ∨ 15 < ls) : CT l mX7_intersect 8 1 6 [.ref (0), .int (iI (ls)), .int (iI (t))] NN h (xP eIA (fun h' => h' = h)) := by
  obtain ⟨g0, k1, k2, k4, k5, -⟩ := id hC
  refine CT.of (by decide) (Nat.le_of_ble_eq_true rfl) ?_
  refine g_al (al2 := [some (.ref (0)), some (.int (iI (ls))), some (.int (iI (t)))]) rfl ?_
  refine g_iload_n (q := 1) rfl rfl dX7_intersect_0 rfl ?_
  exact g_Sx (d' := 7) (av := [.int (iI (ls))]) (st := []) ksX7_132 (x_X7_requireSet l h ls hi h0) rfl (Nat.le_of_ble_eq_true rfl) ⟨(Nat.le_of_ble_eq_true rfl), (Nat.le_of_ble_eq_true rfl)⟩ ⟨(Nat.le_of_ble_eq_true rfl), (Nat.le_of_ble_eq_true rfl)⟩ rfl rfl dX7_intersect_1 (fun h2 z => xP_in z)
set_option maxRecDepth 4000 in
theorem x2_X7_intersect (l : Launch) (h : EHp) (S : ASt) (sv : List ASt) (hC : CRep h S sv) (ls : Int) (l0 : 1 ≤ ls) (l1 : ls ≤ 15) (t : Int) (ht : IR t) (h0 : t < 0 ∨ 4 ≤ t) : CT l mX7_intersect 8 1 6 [.ref (0), .int (iI (ls)), .int (iI (t))] NN h (xP eIO (fun h' => h' = h)) := by
  obtain ⟨g0, k1, k2, k4, k5, -⟩ := id hC
  refine CT.of (by decide) (Nat.le_of_ble_eq_true rfl) ?_
  refine g_al (al2 := [some (.ref (0)), some (.int (iI (ls))), some (.int (iI (t)))]) rfl ?_
  refine g_iload_n (q := 1) rfl rfl dX7_intersect_0 rfl ?_
  refine g_Sv (q := 4) (d' := 7) (av := [.int (iI (ls))]) (st := []) ksX7_132 (t_X7_requireSet l h ls l0 l1) rfl (Nat.le_of_ble_eq_true rfl) ⟨(Nat.le_of_ble_eq_true rfl), (Nat.le_of_ble_eq_true rfl)⟩ ⟨(Nat.le_of_ble_eq_true rfl), (Nat.le_of_ble_eq_true rfl)⟩ rfl rfl dX7_intersect_1 rfl (fun hq1 eq2 => ?_)
  rw [eq2]
  refine g_iload_n (q := 5) rfl rfl dX7_intersect_4 rfl ?_
  exact g_Sx (d' := 7) (av := [.int (iI (t))]) (st := []) ksX7_126 (x_X7_requireList l h t ht h0) rfl (Nat.le_of_ble_eq_true rfl) ⟨(Nat.le_of_ble_eq_true rfl), (Nat.le_of_ble_eq_true rfl)⟩ ⟨(Nat.le_of_ble_eq_true rfl), (Nat.le_of_ble_eq_true rfl)⟩ rfl rfl dX7_intersect_5 (fun h2 z => xP_in z)
