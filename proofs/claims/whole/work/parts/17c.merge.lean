/-! ===== mergeIntoResult ===== -/
set_option maxRecDepth 4000 in
theorem t_X7_mergeIntoResult (l : Launch) (h : EHp) (S : ASt) (sv : List ASt) (hC : CRep h S sv) (i j : Nat) (hi : i < 4) (hj : j < 4) : CT l mX7_mergeIntoResult 1 0 0 [.ref (0), .ref (5 + 3 * i), .ref (5 + 3 * j)] NN h (wP (fun v h' => v = .int (iI (uni S i j).1) ∧ ∃ rs, h' 89 = cI 128 rs ∧ Ag (uni S i j).1 rs (uni S i j).2 ∧ ∀ t, t ≠ 89 → h' t = h t)) := by
  obtain ⟨g0, k1, k2, k4, k5, ⟨nx, g5⟩, ⟨Ws, Es, g6, g7, g8⟩, ⟨len0, bs, g9, g10, g11⟩, ⟨od, g12⟩, ⟨rs0, g13⟩⟩ := id hC
  obtain ⟨m, ds, fa, hA, hag, hO, hFO⟩ := k5 i hi trivial
  obtain ⟨m2, ds2, fa2, hA2, hag2, hO2, hFO2⟩ := k5 j hj trivial
  have hOd := ag_LOk hag hO
  have hOd2 := ag_LOk hag2 hO2
  have u1 := hO.1
  have u2 := hO.2.1
  have u3 := hO2.1
  have u4 := hO2.2.1
  refine CT.of (by decide) (Nat.le_of_ble_eq_true rfl) ?_
  refine g_al (al2 := [some (.ref (0)), some (.ref (5 + 3 * i)), some (.ref (5 + 3 * j)), none, none, none, none, none]) rfl ?_
  refine g_iconst (q := 1) dX7_mergeIntoResult_0 rfl ?_
  refine g_istore_n (q := 2) (al2 := [some (.ref (0)), some (.ref (5 + 3 * i)), some (.ref (5 + 3 * j)), some (.int (iI (0))), none, none, none, none]) rfl (by decide) rfl rfl dX7_mergeIntoResult_1 rfl ?_
  refine g_iconst (q := 3) dX7_mergeIntoResult_2 rfl ?_
  refine g_istore (q := 5) (al2 := [some (.ref (0)), some (.ref (5 + 3 * i)), some (.ref (5 + 3 * j)), some (.int (iI (0))), some (.int (iI (0))), none, none, none]) (by decide) rfl rfl dX7_mergeIntoResult_3 rfl ?_
  refine g_iconst (q := 6) dX7_mergeIntoResult_5 rfl ?_
  refine g_istore (q := 8) (al2 := [some (.ref (0)), some (.ref (5 + 3 * i)), some (.ref (5 + 3 * j)), some (.int (iI (0))), some (.int (iI (0))), some (.int (iI (0))), none, none]) (by decide) rfl rfl dX7_mergeIntoResult_6 rfl ?_
  have z1 : cb (S.1 i).1 (S.1 i).2 ((0 : Nat) : Int) = 0 := (cb_eq ⟨Int.le_refl 0, hO.1, fun i a b => by omega, fun z => (hO.2.2.1 0 (Int.le_refl 0) z).1⟩).symm
  have z2 : cb (S.1 j).1 (S.1 j).2 ((0 : Nat) : Int) = 0 := (cb_eq ⟨Int.le_refl 0, hO2.1, fun i a b => by omega, fun z => (hO2.2.2.1 0 (Int.le_refl 0) z).1⟩).symm
  refine g_al (al2 := [some (.ref (0)), some (.ref (5 + 3 * i)), some (.ref (5 + 3 * j)), some (.int (iI (cb (S.1 i).1 (S.1 i).2 ((0 : Nat) : Int)))), some (.int (iI (cb (S.1 j).1 (S.1 j).2 ((0 : Nat) : Int)))), some (.int (iI (en (uP S i j) 0).1)), none, none]) (by rw [z1, z2]; rfl) ?_
  refine loopG (σ := Nat × (Int → Int) × EHp) (P := fun zz => match zz with | (y, rs, h2) => G l noX mX7_mergeIntoResult 1 0 0 (wP (fun v h' => v = .int (iI (uni S i j).1) ∧ ∃ rs, h' 89 = cI 128 rs ∧ Ag (uni S i j).1 rs (uni S i j).2 ∧ ∀ t, t ≠ 89 → h' t = h t)) 0 0 8 [some (.ref (0)), some (.ref (5 + 3 * i)), some (.ref (5 + 3 * j)), some (.int (iI (cb (S.1 i).1 (S.1 i).2 y))), some (.int (iI (cb (S.1 j).1 (S.1 j).2 y))), some (.int (iI ((en (uP S i j) y).1))), none, none] [] NN h2) (I := fun zz => match zz with | (y, rs, h2) => y ≤ 512 ∧ h2 89 = cI 128 rs ∧ Ag (en (uP S i j) y).1 rs (en (uP S i j) y).2 ∧ ∀ t, t ≠ 89 → h2 t = h t) (fun zz => match zz with | (y, rs, h2) => 512 - y) ?_ (0, rs0, h) ⟨by omega, g13, fun t a b => by have : t < 0 := b; omega, fun _ _ => rfl⟩
  rintro ⟨y, rs, h2⟩ hI ih
  obtain ⟨hy, hr, ha, fr⟩ := hI
  have q0 : h2 0 = _ := (fr 0 (by decide)).trans g0
  have qA : PA h2 (5 + 3 * i) (S.1 i).1 m ds fa := ⟨(fr _ (by omega)).trans hA.1, (fr _ (by omega)).trans hA.2.1, (fr _ (by omega)).trans hA.2.2.1, hA.2.2.2⟩
  have qA2 : PA h2 (5 + 3 * j) (S.1 j).1 m2 ds2 fa2 := ⟨(fr _ (by omega)).trans hA2.1, (fr _ (by omega)).trans hA2.2.1, (fr _ (by omega)).trans hA2.2.2.1, hA2.2.2.2⟩
  have n0 := (en_ok (uP S i j) y).1
  have nl := uni_le hO hO2 y
  obtain ⟨p1, p2, -, -⟩ := cb_is (S.1 i).2 (y : Int) hO.1
  obtain ⟨q1, q2, -, -⟩ := cb_is (S.1 j).2 (y : Int) hO2.1
  have x1 := nxd_rng hO hy
  have x2 := nxd_rng hO2 hy
  refine g_iload (q := 10) rfl dX7_mergeIntoResult_8 rfl ?_
  refine g_aload_n (q := 11) rfl rfl dX7_mergeIntoResult_10 rfl ?_
  refine g_get (q := 14) fX7_41r (by decide) q0 rfl dX7_mergeIntoResult_11 rfl ?_
  refine g_alen (q := 15) (by decide) hr dX7_mergeIntoResult_14 rfl ?_
  refine g_icmp_ge (t := 138) (q := 18) ⟨by omega, by omega⟩ ⟨by omega, by omega⟩ dX7_mergeIntoResult_15 rfl rfl (fun c15 => ?_) (fun c15 => ?_)
  · have ee := mrg_end hO hO2 hy (by omega) (by omega)
    refine g_iload (q := 140) rfl dX7_mergeIntoResult_138 rfl ?_
    exact g_ireturn (fun z => NN_f z) (Nat.le_of_ble_eq_true rfl) (Nat.le_of_ble_eq_true rfl) dX7_mergeIntoResult_140 rfl (wP_in ⟨by rw [ee], rs, hr, by rw [← ee]; exact ha, fr⟩)
  · refine g_iload_n (q := 19) rfl rfl dX7_mergeIntoResult_18 rfl ?_
    refine g_aload_n (q := 20) rfl rfl dX7_mergeIntoResult_19 rfl ?_
    refine g_get (q := 23) fX7_69r (by show _ < 103; omega) qA.1 rfl dX7_mergeIntoResult_20 rfl ?_
    refine g_icmp_lt (t := 35) (q := 26) ⟨by omega, by omega⟩ ⟨by omega, by omega⟩ dX7_mergeIntoResult_23 rfl rfl (fun c23 => ?_) (fun c23 => ?_)
    · have lv : cb (S.1 i).1 (S.1 i).2 y < (S.1 i).1 ∨ cb (S.1 j).1 (S.1 j).2 y < (S.1 j).1 := by omega
      have lx : nxd (S.1 i).1 (S.1 i).2 (cb (S.1 i).1 (S.1 i).2 y) ≤ 511 ∨ nxd (S.1 j).1 (S.1 j).2 (cb (S.1 j).1 (S.1 j).2 y) ≤ 511 := by
        rcases lv with z | z
        · left; unfold nxd; rw [if_pos z]; have := hO.2.2.1 _ p1 z; omega
        · right; unfold nxd; rw [if_pos z]; have := hO2.2.2.1 _ q1 z; omega
      have k56 : ∀ (x : Int) (hx : x = nxd (S.1 i).1 (S.1 i).2 (cb (S.1 i).1 (S.1 i).2 y)), G l noX mX7_mergeIntoResult 1 0 0 (wP (fun v h' => v = .int (iI (uni S i j).1) ∧ ∃ rs, h' 89 = cI 128 rs ∧ Ag (uni S i j).1 rs (uni S i j).2 ∧ ∀ t, t ≠ 89 → h' t = h t)) 0 0 56 [some (.ref (0)), some (.ref (5 + 3 * i)), some (.ref (5 + 3 * j)), some (.int (iI (cb (S.1 i).1 (S.1 i).2 y))), some (.int (iI (cb (S.1 j).1 (S.1 j).2 y))), some (.int (iI ((en (uP S i j) y).1))), some (.int (iI (x))), none] [] NN h2 := by
        intro x hx
        refine g_iload (q := 58) rfl dX7_mergeIntoResult_56 rfl ?_
        refine g_aload_n (q := 59) rfl rfl dX7_mergeIntoResult_58 rfl ?_
        refine g_get (q := 62) fX7_69r (by show _ < 103; omega) qA2.1 rfl dX7_mergeIntoResult_59 rfl ?_
        have k79 : ∀ (z : Int) (hz : z = nxd (S.1 j).1 (S.1 j).2 (cb (S.1 j).1 (S.1 j).2 y)), G l noX mX7_mergeIntoResult 1 0 0 (wP (fun v h' => v = .int (iI (uni S i j).1) ∧ ∃ rs, h' 89 = cI 128 rs ∧ Ag (uni S i j).1 rs (uni S i j).2 ∧ ∀ t, t ≠ 89 → h' t = h t)) 0 0 79 [some (.ref (0)), some (.ref (5 + 3 * i)), some (.ref (5 + 3 * j)), some (.int (iI (cb (S.1 i).1 (S.1 i).2 y))), some (.int (iI (cb (S.1 j).1 (S.1 j).2 y))), some (.int (iI ((en (uP S i j) y).1))), some (.int (iI (x))), some (.int (iI (z)))] [] NN h2 := by
          intro z hz
          refine g_aload_n (q := 80) rfl rfl dX7_mergeIntoResult_79 rfl ?_
          refine g_get (q := 83) fX7_41r (by decide) q0 rfl dX7_mergeIntoResult_80 rfl ?_
          refine g_iload (q := 85) rfl dX7_mergeIntoResult_83 rfl ?_
          refine g_iload (q := 87) rfl dX7_mergeIntoResult_85 rfl ?_
          refine g_iload (q := 89) rfl dX7_mergeIntoResult_87 rfl ?_
          refine g_icmp_gt (t := 97) (q := 92) ⟨by omega, by omega⟩ ⟨by omega, by omega⟩ dX7_mergeIntoResult_89 rfl rfl (fun c89 => ?_) (fun c89 => ?_)
          · refine g_iload (q := 99) rfl dX7_mergeIntoResult_97 rfl ?_
            refine g_iastore (q := 100) (by decide) hr (by omega) (by omega) (by decide) dX7_mergeIntoResult_99 rfl ?_
            refine hp_in (fun hh1 ehh1 => ?_)
            have fc2 : hh1 0 = cO 6 [.ref (1), .ref (17), .ref (83), .ref (86), .ref (88), .ref (89)] := by rw [ehh1, ueh_n (by decide)]; exact q0
            have fc3 : hh1 (5 + 3 * i) = cO 4 [.ref (5 + 3 * i + 1), .int (iI ((S.1 i).1)), .ref (5 + 3 * i + 2), .int (iI (m))] := by rw [ehh1, ueh_n (by omega)]; exact qA.1
            have fc4 : hh1 (5 + 3 * j) = cO 4 [.ref (5 + 3 * j + 1), .int (iI ((S.1 j).1)), .ref (5 + 3 * j + 2), .int (iI (m2))] := by rw [ehh1, ueh_n (by omega)]; exact qA2.1
            have fc5 : hh1 89 = cI 128 (ui rs ((en (uP S i j) y).1) z) := by rw [ehh1]; exact ueh_s
            refine g_iload_n (q := 101) rfl rfl dX7_mergeIntoResult_100 rfl ?_
            refine g_iload (q := 103) rfl dX7_mergeIntoResult_101 rfl ?_
            refine g_iload (q := 105) rfl dX7_mergeIntoResult_103 rfl ?_
            refine g_icmp_gt (t := 112) (q := 108) ⟨by omega, by omega⟩ ⟨by omega, by omega⟩ dX7_mergeIntoResult_105 rfl rfl (fun c105 => ?_) (fun c105 => ?_)
            · refine g_iconst (q := 113) dX7_mergeIntoResult_112 rfl ?_
              refine g_iadd (q := 114) dX7_mergeIntoResult_113 rfl ?_
              refine g_istore_n (q := 115) (al2 := [some (.ref (0)), some (.ref (5 + 3 * i)), some (.ref (5 + 3 * j)), some (.int (iI ((cb (S.1 i).1 (S.1 i).2 y) + 0))), some (.int (iI (cb (S.1 j).1 (S.1 j).2 y))), some (.int (iI ((en (uP S i j) y).1))), some (.int (iI (x))), some (.int (iI (z)))]) rfl (by decide) rfl rfl dX7_mergeIntoResult_114 rfl ?_
              refine g_iload (q := 117) rfl dX7_mergeIntoResult_115 rfl ?_
              refine g_iload (q := 119) rfl dX7_mergeIntoResult_117 rfl ?_
              refine g_iload (q := 121) rfl dX7_mergeIntoResult_119 rfl ?_
              refine g_icmp_gt (t := 128) (q := 124) ⟨by omega, by omega⟩ ⟨by omega, by omega⟩ dX7_mergeIntoResult_121 rfl rfl (fun c121 => ?_) (fun c121 => ?_)
              · refine g_iconst (q := 129) dX7_mergeIntoResult_128 rfl ?_
                refine g_iadd (q := 130) dX7_mergeIntoResult_129 rfl ?_
                refine g_istore (q := 132) (al2 := [some (.ref (0)), some (.ref (5 + 3 * i)), some (.ref (5 + 3 * j)), some (.int (iI ((cb (S.1 i).1 (S.1 i).2 y) + 0))), some (.int (iI ((cb (S.1 j).1 (S.1 j).2 y) + 0))), some (.int (iI ((en (uP S i j) y).1))), some (.int (iI (x))), some (.int (iI (z)))]) (by decide) rfl rfl dX7_mergeIntoResult_130 rfl ?_
                refine g_iinc (q := 135) (al2 := [some (.ref (0)), some (.ref (5 + 3 * i)), some (.ref (5 + 3 * j)), some (.int (iI ((cb (S.1 i).1 (S.1 i).2 y) + 0))), some (.int (iI ((cb (S.1 j).1 (S.1 j).2 y) + 0))), some (.int (iI (((en (uP S i j) y).1) + 1))), some (.int (iI (x))), some (.int (iI (z)))]) rfl (by decide) rfl rfl dX7_mergeIntoResult_132 rfl ?_
                refine g_goto (q := 8) dX7_mergeIntoResult_135 rfl ?_
                omega
              · refine g_iconst (q := 125) dX7_mergeIntoResult_124 rfl ?_
                refine g_goto (q := 129) dX7_mergeIntoResult_125 rfl ?_
                refine g_iadd (q := 130) dX7_mergeIntoResult_129 rfl ?_
                refine g_istore (q := 132) (al2 := [some (.ref (0)), some (.ref (5 + 3 * i)), some (.ref (5 + 3 * j)), some (.int (iI ((cb (S.1 i).1 (S.1 i).2 y) + 0))), some (.int (iI ((cb (S.1 j).1 (S.1 j).2 y) + 1))), some (.int (iI ((en (uP S i j) y).1))), some (.int (iI (x))), some (.int (iI (z)))]) (by decide) rfl rfl dX7_mergeIntoResult_130 rfl ?_
                refine g_iinc (q := 135) (al2 := [some (.ref (0)), some (.ref (5 + 3 * i)), some (.ref (5 + 3 * j)), some (.int (iI ((cb (S.1 i).1 (S.1 i).2 y) + 0))), some (.int (iI ((cb (S.1 j).1 (S.1 j).2 y) + 1))), some (.int (iI (((en (uP S i j) y).1) + 1))), some (.int (iI (x))), some (.int (iI (z)))]) rfl (by decide) rfl rfl dX7_mergeIntoResult_132 rfl ?_
                refine g_goto (q := 8) dX7_mergeIntoResult_135 rfl ?_
                refine g_drop (al2 := [some (.ref (0)), some (.ref (5 + 3 * i)), some (.ref (5 + 3 * j)), some (.int (iI ((cb (S.1 i).1 (S.1 i).2 y) + 0))), some (.int (iI ((cb (S.1 j).1 (S.1 j).2 y) + 1))), some (.int (iI (((en (uP S i j) y).1) + 1))), none, some (.int (iI (z)))]) 6 rfl ?_
                refine g_drop (al2 := [some (.ref (0)), some (.ref (5 + 3 * i)), some (.ref (5 + 3 * j)), some (.int (iI ((cb (S.1 i).1 (S.1 i).2 y) + 0))), some (.int (iI ((cb (S.1 j).1 (S.1 j).2 y) + 1))), some (.int (iI (((en (uP S i j) y).1) + 1))), none, none]) 7 rfl ?_
                obtain ⟨e1, e2, e3⟩ := mrg_step hO hO2 (y := y) (z := z) (by omega) (by omega) (by omega) (by omega) (by omega)
                have e4 : (en (uP S i j) ((z).toNat + 1)).1 = (en (uP S i j) y).1 + 1 := by rw [e1]
                rw [if_neg (by omega)] at e2
                rw [if_pos (by omega)] at e3
                have gg := ih ((z).toNat + 1, ui rs ((en (uP S i j) y).1) z, hh1) ⟨by show (z).toNat + 1 ≤ 512; omega, fc5, by rw [e1]; exact ag_ui ha _, fun t ht => by rw [ehh1, ueh_n ht]; exact fr t ht⟩ (by show 512 - ((z).toNat + 1) < 512 - y; omega)
                simp only [] at gg
                rw [e2, e3, e4] at gg
                exact gg
            · refine g_iconst (q := 109) dX7_mergeIntoResult_108 rfl ?_
              refine g_goto (q := 113) dX7_mergeIntoResult_109 rfl ?_
              refine g_iadd (q := 114) dX7_mergeIntoResult_113 rfl ?_
              refine g_istore_n (q := 115) (al2 := [some (.ref (0)), some (.ref (5 + 3 * i)), some (.ref (5 + 3 * j)), some (.int (iI ((cb (S.1 i).1 (S.1 i).2 y) + 1))), some (.int (iI (cb (S.1 j).1 (S.1 j).2 y))), some (.int (iI ((en (uP S i j) y).1))), some (.int (iI (x))), some (.int (iI (z)))]) rfl (by decide) rfl rfl dX7_mergeIntoResult_114 rfl ?_
              refine g_iload (q := 117) rfl dX7_mergeIntoResult_115 rfl ?_
              refine g_iload (q := 119) rfl dX7_mergeIntoResult_117 rfl ?_
              refine g_iload (q := 121) rfl dX7_mergeIntoResult_119 rfl ?_
              refine g_icmp_gt (t := 128) (q := 124) ⟨by omega, by omega⟩ ⟨by omega, by omega⟩ dX7_mergeIntoResult_121 rfl rfl (fun c121 => ?_) (fun c121 => ?_)
              · refine g_iconst (q := 129) dX7_mergeIntoResult_128 rfl ?_
                refine g_iadd (q := 130) dX7_mergeIntoResult_129 rfl ?_
                refine g_istore (q := 132) (al2 := [some (.ref (0)), some (.ref (5 + 3 * i)), some (.ref (5 + 3 * j)), some (.int (iI ((cb (S.1 i).1 (S.1 i).2 y) + 1))), some (.int (iI ((cb (S.1 j).1 (S.1 j).2 y) + 0))), some (.int (iI ((en (uP S i j) y).1))), some (.int (iI (x))), some (.int (iI (z)))]) (by decide) rfl rfl dX7_mergeIntoResult_130 rfl ?_
                refine g_iinc (q := 135) (al2 := [some (.ref (0)), some (.ref (5 + 3 * i)), some (.ref (5 + 3 * j)), some (.int (iI ((cb (S.1 i).1 (S.1 i).2 y) + 1))), some (.int (iI ((cb (S.1 j).1 (S.1 j).2 y) + 0))), some (.int (iI (((en (uP S i j) y).1) + 1))), some (.int (iI (x))), some (.int (iI (z)))]) rfl (by decide) rfl rfl dX7_mergeIntoResult_132 rfl ?_
                refine g_goto (q := 8) dX7_mergeIntoResult_135 rfl ?_
                omega
              · refine g_iconst (q := 125) dX7_mergeIntoResult_124 rfl ?_
                refine g_goto (q := 129) dX7_mergeIntoResult_125 rfl ?_
                refine g_iadd (q := 130) dX7_mergeIntoResult_129 rfl ?_
                refine g_istore (q := 132) (al2 := [some (.ref (0)), some (.ref (5 + 3 * i)), some (.ref (5 + 3 * j)), some (.int (iI ((cb (S.1 i).1 (S.1 i).2 y) + 1))), some (.int (iI ((cb (S.1 j).1 (S.1 j).2 y) + 1))), some (.int (iI ((en (uP S i j) y).1))), some (.int (iI (x))), some (.int (iI (z)))]) (by decide) rfl rfl dX7_mergeIntoResult_130 rfl ?_
                refine g_iinc (q := 135) (al2 := [some (.ref (0)), some (.ref (5 + 3 * i)), some (.ref (5 + 3 * j)), some (.int (iI ((cb (S.1 i).1 (S.1 i).2 y) + 1))), some (.int (iI ((cb (S.1 j).1 (S.1 j).2 y) + 1))), some (.int (iI (((en (uP S i j) y).1) + 1))), some (.int (iI (x))), some (.int (iI (z)))]) rfl (by decide) rfl rfl dX7_mergeIntoResult_132 rfl ?_
                refine g_goto (q := 8) dX7_mergeIntoResult_135 rfl ?_
                omega
          · refine g_iload (q := 94) rfl dX7_mergeIntoResult_92 rfl ?_
            refine g_goto (q := 99) dX7_mergeIntoResult_94 rfl ?_
            refine g_iastore (q := 100) (by decide) hr (by omega) (by omega) (by decide) dX7_mergeIntoResult_99 rfl ?_
            refine hp_in (fun hh6 ehh6 => ?_)
            have fc7 : hh6 0 = cO 6 [.ref (1), .ref (17), .ref (83), .ref (86), .ref (88), .ref (89)] := by rw [ehh6, ueh_n (by decide)]; exact q0
            have fc8 : hh6 (5 + 3 * i) = cO 4 [.ref (5 + 3 * i + 1), .int (iI ((S.1 i).1)), .ref (5 + 3 * i + 2), .int (iI (m))] := by rw [ehh6, ueh_n (by omega)]; exact qA.1
            have fc9 : hh6 (5 + 3 * j) = cO 4 [.ref (5 + 3 * j + 1), .int (iI ((S.1 j).1)), .ref (5 + 3 * j + 2), .int (iI (m2))] := by rw [ehh6, ueh_n (by omega)]; exact qA2.1
            have fc10 : hh6 89 = cI 128 (ui rs ((en (uP S i j) y).1) x) := by rw [ehh6]; exact ueh_s
            refine g_iload_n (q := 101) rfl rfl dX7_mergeIntoResult_100 rfl ?_
            refine g_iload (q := 103) rfl dX7_mergeIntoResult_101 rfl ?_
            refine g_iload (q := 105) rfl dX7_mergeIntoResult_103 rfl ?_
            refine g_icmp_gt (t := 112) (q := 108) ⟨by omega, by omega⟩ ⟨by omega, by omega⟩ dX7_mergeIntoResult_105 rfl rfl (fun c105 => ?_) (fun c105 => ?_)
            · refine g_iconst (q := 113) dX7_mergeIntoResult_112 rfl ?_
              refine g_iadd (q := 114) dX7_mergeIntoResult_113 rfl ?_
              refine g_istore_n (q := 115) (al2 := [some (.ref (0)), some (.ref (5 + 3 * i)), some (.ref (5 + 3 * j)), some (.int (iI ((cb (S.1 i).1 (S.1 i).2 y) + 0))), some (.int (iI (cb (S.1 j).1 (S.1 j).2 y))), some (.int (iI ((en (uP S i j) y).1))), some (.int (iI (x))), some (.int (iI (z)))]) rfl (by decide) rfl rfl dX7_mergeIntoResult_114 rfl ?_
              refine g_iload (q := 117) rfl dX7_mergeIntoResult_115 rfl ?_
              refine g_iload (q := 119) rfl dX7_mergeIntoResult_117 rfl ?_
              refine g_iload (q := 121) rfl dX7_mergeIntoResult_119 rfl ?_
              refine g_icmp_gt (t := 128) (q := 124) ⟨by omega, by omega⟩ ⟨by omega, by omega⟩ dX7_mergeIntoResult_121 rfl rfl (fun c121 => ?_) (fun c121 => ?_)
              · refine g_iconst (q := 129) dX7_mergeIntoResult_128 rfl ?_
                refine g_iadd (q := 130) dX7_mergeIntoResult_129 rfl ?_
                refine g_istore (q := 132) (al2 := [some (.ref (0)), some (.ref (5 + 3 * i)), some (.ref (5 + 3 * j)), some (.int (iI ((cb (S.1 i).1 (S.1 i).2 y) + 0))), some (.int (iI ((cb (S.1 j).1 (S.1 j).2 y) + 0))), some (.int (iI ((en (uP S i j) y).1))), some (.int (iI (x))), some (.int (iI (z)))]) (by decide) rfl rfl dX7_mergeIntoResult_130 rfl ?_
                refine g_iinc (q := 135) (al2 := [some (.ref (0)), some (.ref (5 + 3 * i)), some (.ref (5 + 3 * j)), some (.int (iI ((cb (S.1 i).1 (S.1 i).2 y) + 0))), some (.int (iI ((cb (S.1 j).1 (S.1 j).2 y) + 0))), some (.int (iI (((en (uP S i j) y).1) + 1))), some (.int (iI (x))), some (.int (iI (z)))]) rfl (by decide) rfl rfl dX7_mergeIntoResult_132 rfl ?_
                refine g_goto (q := 8) dX7_mergeIntoResult_135 rfl ?_
                omega
              · refine g_iconst (q := 125) dX7_mergeIntoResult_124 rfl ?_
                refine g_goto (q := 129) dX7_mergeIntoResult_125 rfl ?_
                refine g_iadd (q := 130) dX7_mergeIntoResult_129 rfl ?_
                refine g_istore (q := 132) (al2 := [some (.ref (0)), some (.ref (5 + 3 * i)), some (.ref (5 + 3 * j)), some (.int (iI ((cb (S.1 i).1 (S.1 i).2 y) + 0))), some (.int (iI ((cb (S.1 j).1 (S.1 j).2 y) + 1))), some (.int (iI ((en (uP S i j) y).1))), some (.int (iI (x))), some (.int (iI (z)))]) (by decide) rfl rfl dX7_mergeIntoResult_130 rfl ?_
                refine g_iinc (q := 135) (al2 := [some (.ref (0)), some (.ref (5 + 3 * i)), some (.ref (5 + 3 * j)), some (.int (iI ((cb (S.1 i).1 (S.1 i).2 y) + 0))), some (.int (iI ((cb (S.1 j).1 (S.1 j).2 y) + 1))), some (.int (iI (((en (uP S i j) y).1) + 1))), some (.int (iI (x))), some (.int (iI (z)))]) rfl (by decide) rfl rfl dX7_mergeIntoResult_132 rfl ?_
                refine g_goto (q := 8) dX7_mergeIntoResult_135 rfl ?_
                omega
            · refine g_iconst (q := 109) dX7_mergeIntoResult_108 rfl ?_
              refine g_goto (q := 113) dX7_mergeIntoResult_109 rfl ?_
              refine g_iadd (q := 114) dX7_mergeIntoResult_113 rfl ?_
              refine g_istore_n (q := 115) (al2 := [some (.ref (0)), some (.ref (5 + 3 * i)), some (.ref (5 + 3 * j)), some (.int (iI ((cb (S.1 i).1 (S.1 i).2 y) + 1))), some (.int (iI (cb (S.1 j).1 (S.1 j).2 y))), some (.int (iI ((en (uP S i j) y).1))), some (.int (iI (x))), some (.int (iI (z)))]) rfl (by decide) rfl rfl dX7_mergeIntoResult_114 rfl ?_
              refine g_iload (q := 117) rfl dX7_mergeIntoResult_115 rfl ?_
              refine g_iload (q := 119) rfl dX7_mergeIntoResult_117 rfl ?_
              refine g_iload (q := 121) rfl dX7_mergeIntoResult_119 rfl ?_
              refine g_icmp_gt (t := 128) (q := 124) ⟨by omega, by omega⟩ ⟨by omega, by omega⟩ dX7_mergeIntoResult_121 rfl rfl (fun c121 => ?_) (fun c121 => ?_)
              · refine g_iconst (q := 129) dX7_mergeIntoResult_128 rfl ?_
                refine g_iadd (q := 130) dX7_mergeIntoResult_129 rfl ?_
                refine g_istore (q := 132) (al2 := [some (.ref (0)), some (.ref (5 + 3 * i)), some (.ref (5 + 3 * j)), some (.int (iI ((cb (S.1 i).1 (S.1 i).2 y) + 1))), some (.int (iI ((cb (S.1 j).1 (S.1 j).2 y) + 0))), some (.int (iI ((en (uP S i j) y).1))), some (.int (iI (x))), some (.int (iI (z)))]) (by decide) rfl rfl dX7_mergeIntoResult_130 rfl ?_
                refine g_iinc (q := 135) (al2 := [some (.ref (0)), some (.ref (5 + 3 * i)), some (.ref (5 + 3 * j)), some (.int (iI ((cb (S.1 i).1 (S.1 i).2 y) + 1))), some (.int (iI ((cb (S.1 j).1 (S.1 j).2 y) + 0))), some (.int (iI (((en (uP S i j) y).1) + 1))), some (.int (iI (x))), some (.int (iI (z)))]) rfl (by decide) rfl rfl dX7_mergeIntoResult_132 rfl ?_
                refine g_goto (q := 8) dX7_mergeIntoResult_135 rfl ?_
                refine g_drop (al2 := [some (.ref (0)), some (.ref (5 + 3 * i)), some (.ref (5 + 3 * j)), some (.int (iI ((cb (S.1 i).1 (S.1 i).2 y) + 1))), some (.int (iI ((cb (S.1 j).1 (S.1 j).2 y) + 0))), some (.int (iI (((en (uP S i j) y).1) + 1))), none, some (.int (iI (z)))]) 6 rfl ?_
                refine g_drop (al2 := [some (.ref (0)), some (.ref (5 + 3 * i)), some (.ref (5 + 3 * j)), some (.int (iI ((cb (S.1 i).1 (S.1 i).2 y) + 1))), some (.int (iI ((cb (S.1 j).1 (S.1 j).2 y) + 0))), some (.int (iI (((en (uP S i j) y).1) + 1))), none, none]) 7 rfl ?_
                obtain ⟨e1, e2, e3⟩ := mrg_step hO hO2 (y := y) (z := x) (by omega) (by omega) (by omega) (by omega) (by omega)
                have e4 : (en (uP S i j) ((x).toNat + 1)).1 = (en (uP S i j) y).1 + 1 := by rw [e1]
                rw [if_pos (by omega)] at e2
                rw [if_neg (by omega)] at e3
                have gg := ih ((x).toNat + 1, ui rs ((en (uP S i j) y).1) x, hh6) ⟨by show (x).toNat + 1 ≤ 512; omega, fc10, by rw [e1]; exact ag_ui ha _, fun t ht => by rw [ehh6, ueh_n ht]; exact fr t ht⟩ (by show 512 - ((x).toNat + 1) < 512 - y; omega)
                simp only [] at gg
                rw [e2, e3, e4] at gg
                exact gg
              · refine g_iconst (q := 125) dX7_mergeIntoResult_124 rfl ?_
                refine g_goto (q := 129) dX7_mergeIntoResult_125 rfl ?_
                refine g_iadd (q := 130) dX7_mergeIntoResult_129 rfl ?_
                refine g_istore (q := 132) (al2 := [some (.ref (0)), some (.ref (5 + 3 * i)), some (.ref (5 + 3 * j)), some (.int (iI ((cb (S.1 i).1 (S.1 i).2 y) + 1))), some (.int (iI ((cb (S.1 j).1 (S.1 j).2 y) + 1))), some (.int (iI ((en (uP S i j) y).1))), some (.int (iI (x))), some (.int (iI (z)))]) (by decide) rfl rfl dX7_mergeIntoResult_130 rfl ?_
                refine g_iinc (q := 135) (al2 := [some (.ref (0)), some (.ref (5 + 3 * i)), some (.ref (5 + 3 * j)), some (.int (iI ((cb (S.1 i).1 (S.1 i).2 y) + 1))), some (.int (iI ((cb (S.1 j).1 (S.1 j).2 y) + 1))), some (.int (iI (((en (uP S i j) y).1) + 1))), some (.int (iI (x))), some (.int (iI (z)))]) rfl (by decide) rfl rfl dX7_mergeIntoResult_132 rfl ?_
                refine g_goto (q := 8) dX7_mergeIntoResult_135 rfl ?_
                refine g_drop (al2 := [some (.ref (0)), some (.ref (5 + 3 * i)), some (.ref (5 + 3 * j)), some (.int (iI ((cb (S.1 i).1 (S.1 i).2 y) + 1))), some (.int (iI ((cb (S.1 j).1 (S.1 j).2 y) + 1))), some (.int (iI (((en (uP S i j) y).1) + 1))), none, some (.int (iI (z)))]) 6 rfl ?_
                refine g_drop (al2 := [some (.ref (0)), some (.ref (5 + 3 * i)), some (.ref (5 + 3 * j)), some (.int (iI ((cb (S.1 i).1 (S.1 i).2 y) + 1))), some (.int (iI ((cb (S.1 j).1 (S.1 j).2 y) + 1))), some (.int (iI (((en (uP S i j) y).1) + 1))), none, none]) 7 rfl ?_
                obtain ⟨e1, e2, e3⟩ := mrg_step hO hO2 (y := y) (z := x) (by omega) (by omega) (by omega) (by omega) (by omega)
                have e4 : (en (uP S i j) ((x).toNat + 1)).1 = (en (uP S i j) y).1 + 1 := by rw [e1]
                rw [if_pos (by omega)] at e2
                rw [if_pos (by omega)] at e3
                have gg := ih ((x).toNat + 1, ui rs ((en (uP S i j) y).1) x, hh6) ⟨by show (x).toNat + 1 ≤ 512; omega, fc10, by rw [e1]; exact ag_ui ha _, fun t ht => by rw [ehh6, ueh_n ht]; exact fr t ht⟩ (by show 512 - ((x).toNat + 1) < 512 - y; omega)
                simp only [] at gg
                rw [e2, e3, e4] at gg
                exact gg
        refine g_icmp_ge (t := 74) (q := 65) ⟨by omega, by omega⟩ ⟨by omega, by omega⟩ dX7_mergeIntoResult_62 rfl rfl (fun c62 => ?_) (fun c62 => ?_)
        · refine g_sipush (q := 77) (by decide) dX7_mergeIntoResult_74 rfl ?_
          refine g_istore (q := 79) (al2 := [some (.ref (0)), some (.ref (5 + 3 * i)), some (.ref (5 + 3 * j)), some (.int (iI (cb (S.1 i).1 (S.1 i).2 y))), some (.int (iI (cb (S.1 j).1 (S.1 j).2 y))), some (.int (iI ((en (uP S i j) y).1))), some (.int (iI (x))), some (.int (iI (512)))]) (by decide) rfl rfl dX7_mergeIntoResult_77 rfl ?_
          exact k79 _ (by unfold nxd; rw [if_neg (by omega)])
        · refine g_aload_n (q := 66) rfl rfl dX7_mergeIntoResult_65 rfl ?_
          refine g_iload (q := 68) rfl dX7_mergeIntoResult_66 rfl ?_
          refine g_Vr (q := 71) (d' := 0) (i := 5 + 3 * j) (av := [.int (iI (cb (S.1 j).1 (S.1 j).2 y))]) (st := []) (v := .int (iI ((S.1 j).2 (cb (S.1 j).1 (S.1 j).2 y)))) kvX7_97 (by have := t_X4_documentAt l h2 (5 + 3 * j) (S.1 j).1 m2 ds2 fa2 qA2 hOd2 (cb (S.1 j).1 (S.1 j).2 y) ⟨by omega, by omega⟩; rw [ag_dA hag2, dA_in q1 (by omega)] at this; exact this) (by show _ < 103; omega) qA2.1 rfl (Nat.le_of_ble_eq_true rfl) ⟨(Nat.le_of_ble_eq_true rfl), (Nat.le_of_ble_eq_true rfl)⟩ ⟨(Nat.le_of_ble_eq_true rfl), (Nat.le_of_ble_eq_true rfl)⟩ rfl rfl dX7_mergeIntoResult_68 rfl ?_
          refine g_goto (q := 77) dX7_mergeIntoResult_71 rfl ?_
          refine g_istore (q := 79) (al2 := [some (.ref (0)), some (.ref (5 + 3 * i)), some (.ref (5 + 3 * j)), some (.int (iI (cb (S.1 i).1 (S.1 i).2 y))), some (.int (iI (cb (S.1 j).1 (S.1 j).2 y))), some (.int (iI ((en (uP S i j) y).1))), some (.int (iI (x))), some (.int (iI ((S.1 j).2 (cb (S.1 j).1 (S.1 j).2 y))))]) (by decide) rfl rfl dX7_mergeIntoResult_77 rfl ?_
          exact k79 _ (by unfold nxd; rw [if_pos (by omega)])
      refine g_iload_n (q := 36) rfl rfl dX7_mergeIntoResult_35 rfl ?_
      refine g_aload_n (q := 37) rfl rfl dX7_mergeIntoResult_36 rfl ?_
      refine g_get (q := 40) fX7_69r (by show _ < 103; omega) qA.1 rfl dX7_mergeIntoResult_37 rfl ?_
      refine g_icmp_ge (t := 51) (q := 43) ⟨by omega, by omega⟩ ⟨by omega, by omega⟩ dX7_mergeIntoResult_40 rfl rfl (fun c40 => ?_) (fun c40 => ?_)
      · refine g_sipush (q := 54) (by decide) dX7_mergeIntoResult_51 rfl ?_
        refine g_istore (q := 56) (al2 := [some (.ref (0)), some (.ref (5 + 3 * i)), some (.ref (5 + 3 * j)), some (.int (iI (cb (S.1 i).1 (S.1 i).2 y))), some (.int (iI (cb (S.1 j).1 (S.1 j).2 y))), some (.int (iI ((en (uP S i j) y).1))), some (.int (iI (512))), none]) (by decide) rfl rfl dX7_mergeIntoResult_54 rfl ?_
        exact k56 _ (by unfold nxd; rw [if_neg (by omega)])
      · refine g_aload_n (q := 44) rfl rfl dX7_mergeIntoResult_43 rfl ?_
        refine g_iload_n (q := 45) rfl rfl dX7_mergeIntoResult_44 rfl ?_
        refine g_Vr (q := 48) (d' := 0) (i := 5 + 3 * i) (av := [.int (iI (cb (S.1 i).1 (S.1 i).2 y))]) (st := []) (v := .int (iI ((S.1 i).2 (cb (S.1 i).1 (S.1 i).2 y)))) kvX7_97 (by have := t_X4_documentAt l h2 (5 + 3 * i) (S.1 i).1 m ds fa qA hOd (cb (S.1 i).1 (S.1 i).2 y) ⟨by omega, by omega⟩; rw [ag_dA hag, dA_in p1 (by omega)] at this; exact this) (by show _ < 103; omega) qA.1 rfl (Nat.le_of_ble_eq_true rfl) ⟨(Nat.le_of_ble_eq_true rfl), (Nat.le_of_ble_eq_true rfl)⟩ ⟨(Nat.le_of_ble_eq_true rfl), (Nat.le_of_ble_eq_true rfl)⟩ rfl rfl dX7_mergeIntoResult_45 rfl ?_
        refine g_goto (q := 54) dX7_mergeIntoResult_48 rfl ?_
        refine g_istore (q := 56) (al2 := [some (.ref (0)), some (.ref (5 + 3 * i)), some (.ref (5 + 3 * j)), some (.int (iI (cb (S.1 i).1 (S.1 i).2 y))), some (.int (iI (cb (S.1 j).1 (S.1 j).2 y))), some (.int (iI ((en (uP S i j) y).1))), some (.int (iI ((S.1 i).2 (cb (S.1 i).1 (S.1 i).2 y)))), none]) (by decide) rfl rfl dX7_mergeIntoResult_54 rfl ?_
        exact k56 _ (by unfold nxd; rw [if_pos (by omega)])
    · refine g_iload (q := 28) rfl dX7_mergeIntoResult_26 rfl ?_
      refine g_aload_n (q := 29) rfl rfl dX7_mergeIntoResult_28 rfl ?_
      refine g_get (q := 32) fX7_69r (by show _ < 103; omega) qA2.1 rfl dX7_mergeIntoResult_29 rfl ?_
      refine g_icmp_ge (t := 138) (q := 35) ⟨by omega, by omega⟩ ⟨by omega, by omega⟩ dX7_mergeIntoResult_32 rfl rfl (fun c32 => ?_) (fun c32 => ?_)
      · have ee := mrg_end hO hO2 hy (by omega) (by omega)
        refine g_iload (q := 140) rfl dX7_mergeIntoResult_138 rfl ?_
        exact g_ireturn (fun z => NN_f z) (Nat.le_of_ble_eq_true rfl) (Nat.le_of_ble_eq_true rfl) dX7_mergeIntoResult_140 rfl (wP_in ⟨by rw [ee], rs, hr, by rw [← ee]; exact ha, fr⟩)
      · have lv : cb (S.1 i).1 (S.1 i).2 y < (S.1 i).1 ∨ cb (S.1 j).1 (S.1 j).2 y < (S.1 j).1 := by omega
        have lx : nxd (S.1 i).1 (S.1 i).2 (cb (S.1 i).1 (S.1 i).2 y) ≤ 511 ∨ nxd (S.1 j).1 (S.1 j).2 (cb (S.1 j).1 (S.1 j).2 y) ≤ 511 := by
          rcases lv with z | z
          · left; unfold nxd; rw [if_pos z]; have := hO.2.2.1 _ p1 z; omega
          · right; unfold nxd; rw [if_pos z]; have := hO2.2.2.1 _ q1 z; omega
        have k56 : ∀ (x : Int) (hx : x = nxd (S.1 i).1 (S.1 i).2 (cb (S.1 i).1 (S.1 i).2 y)), G l noX mX7_mergeIntoResult 1 0 0 (wP (fun v h' => v = .int (iI (uni S i j).1) ∧ ∃ rs, h' 89 = cI 128 rs ∧ Ag (uni S i j).1 rs (uni S i j).2 ∧ ∀ t, t ≠ 89 → h' t = h t)) 0 0 56 [some (.ref (0)), some (.ref (5 + 3 * i)), some (.ref (5 + 3 * j)), some (.int (iI (cb (S.1 i).1 (S.1 i).2 y))), some (.int (iI (cb (S.1 j).1 (S.1 j).2 y))), some (.int (iI ((en (uP S i j) y).1))), some (.int (iI (x))), none] [] NN h2 := by
          intro x hx
          refine g_iload (q := 58) rfl dX7_mergeIntoResult_56 rfl ?_
          refine g_aload_n (q := 59) rfl rfl dX7_mergeIntoResult_58 rfl ?_
          refine g_get (q := 62) fX7_69r (by show _ < 103; omega) qA2.1 rfl dX7_mergeIntoResult_59 rfl ?_
          have k79 : ∀ (z : Int) (hz : z = nxd (S.1 j).1 (S.1 j).2 (cb (S.1 j).1 (S.1 j).2 y)), G l noX mX7_mergeIntoResult 1 0 0 (wP (fun v h' => v = .int (iI (uni S i j).1) ∧ ∃ rs, h' 89 = cI 128 rs ∧ Ag (uni S i j).1 rs (uni S i j).2 ∧ ∀ t, t ≠ 89 → h' t = h t)) 0 0 79 [some (.ref (0)), some (.ref (5 + 3 * i)), some (.ref (5 + 3 * j)), some (.int (iI (cb (S.1 i).1 (S.1 i).2 y))), some (.int (iI (cb (S.1 j).1 (S.1 j).2 y))), some (.int (iI ((en (uP S i j) y).1))), some (.int (iI (x))), some (.int (iI (z)))] [] NN h2 := by
            intro z hz
            refine g_aload_n (q := 80) rfl rfl dX7_mergeIntoResult_79 rfl ?_
            refine g_get (q := 83) fX7_41r (by decide) q0 rfl dX7_mergeIntoResult_80 rfl ?_
            refine g_iload (q := 85) rfl dX7_mergeIntoResult_83 rfl ?_
            refine g_iload (q := 87) rfl dX7_mergeIntoResult_85 rfl ?_
            refine g_iload (q := 89) rfl dX7_mergeIntoResult_87 rfl ?_
            refine g_icmp_gt (t := 97) (q := 92) ⟨by omega, by omega⟩ ⟨by omega, by omega⟩ dX7_mergeIntoResult_89 rfl rfl (fun c89 => ?_) (fun c89 => ?_)
            · refine g_iload (q := 99) rfl dX7_mergeIntoResult_97 rfl ?_
              refine g_iastore (q := 100) (by decide) hr (by omega) (by omega) (by decide) dX7_mergeIntoResult_99 rfl ?_
              refine hp_in (fun hh11 ehh11 => ?_)
              have fc12 : hh11 0 = cO 6 [.ref (1), .ref (17), .ref (83), .ref (86), .ref (88), .ref (89)] := by rw [ehh11, ueh_n (by decide)]; exact q0
              have fc13 : hh11 (5 + 3 * i) = cO 4 [.ref (5 + 3 * i + 1), .int (iI ((S.1 i).1)), .ref (5 + 3 * i + 2), .int (iI (m))] := by rw [ehh11, ueh_n (by omega)]; exact qA.1
              have fc14 : hh11 (5 + 3 * j) = cO 4 [.ref (5 + 3 * j + 1), .int (iI ((S.1 j).1)), .ref (5 + 3 * j + 2), .int (iI (m2))] := by rw [ehh11, ueh_n (by omega)]; exact qA2.1
              have fc15 : hh11 89 = cI 128 (ui rs ((en (uP S i j) y).1) z) := by rw [ehh11]; exact ueh_s
              refine g_iload_n (q := 101) rfl rfl dX7_mergeIntoResult_100 rfl ?_
              refine g_iload (q := 103) rfl dX7_mergeIntoResult_101 rfl ?_
              refine g_iload (q := 105) rfl dX7_mergeIntoResult_103 rfl ?_
              refine g_icmp_gt (t := 112) (q := 108) ⟨by omega, by omega⟩ ⟨by omega, by omega⟩ dX7_mergeIntoResult_105 rfl rfl (fun c105 => ?_) (fun c105 => ?_)
              · refine g_iconst (q := 113) dX7_mergeIntoResult_112 rfl ?_
                refine g_iadd (q := 114) dX7_mergeIntoResult_113 rfl ?_
                refine g_istore_n (q := 115) (al2 := [some (.ref (0)), some (.ref (5 + 3 * i)), some (.ref (5 + 3 * j)), some (.int (iI ((cb (S.1 i).1 (S.1 i).2 y) + 0))), some (.int (iI (cb (S.1 j).1 (S.1 j).2 y))), some (.int (iI ((en (uP S i j) y).1))), some (.int (iI (x))), some (.int (iI (z)))]) rfl (by decide) rfl rfl dX7_mergeIntoResult_114 rfl ?_
                refine g_iload (q := 117) rfl dX7_mergeIntoResult_115 rfl ?_
                refine g_iload (q := 119) rfl dX7_mergeIntoResult_117 rfl ?_
                refine g_iload (q := 121) rfl dX7_mergeIntoResult_119 rfl ?_
                refine g_icmp_gt (t := 128) (q := 124) ⟨by omega, by omega⟩ ⟨by omega, by omega⟩ dX7_mergeIntoResult_121 rfl rfl (fun c121 => ?_) (fun c121 => ?_)
                · refine g_iconst (q := 129) dX7_mergeIntoResult_128 rfl ?_
                  refine g_iadd (q := 130) dX7_mergeIntoResult_129 rfl ?_
                  refine g_istore (q := 132) (al2 := [some (.ref (0)), some (.ref (5 + 3 * i)), some (.ref (5 + 3 * j)), some (.int (iI ((cb (S.1 i).1 (S.1 i).2 y) + 0))), some (.int (iI ((cb (S.1 j).1 (S.1 j).2 y) + 0))), some (.int (iI ((en (uP S i j) y).1))), some (.int (iI (x))), some (.int (iI (z)))]) (by decide) rfl rfl dX7_mergeIntoResult_130 rfl ?_
                  refine g_iinc (q := 135) (al2 := [some (.ref (0)), some (.ref (5 + 3 * i)), some (.ref (5 + 3 * j)), some (.int (iI ((cb (S.1 i).1 (S.1 i).2 y) + 0))), some (.int (iI ((cb (S.1 j).1 (S.1 j).2 y) + 0))), some (.int (iI (((en (uP S i j) y).1) + 1))), some (.int (iI (x))), some (.int (iI (z)))]) rfl (by decide) rfl rfl dX7_mergeIntoResult_132 rfl ?_
                  refine g_goto (q := 8) dX7_mergeIntoResult_135 rfl ?_
                  omega
                · refine g_iconst (q := 125) dX7_mergeIntoResult_124 rfl ?_
                  refine g_goto (q := 129) dX7_mergeIntoResult_125 rfl ?_
                  refine g_iadd (q := 130) dX7_mergeIntoResult_129 rfl ?_
                  refine g_istore (q := 132) (al2 := [some (.ref (0)), some (.ref (5 + 3 * i)), some (.ref (5 + 3 * j)), some (.int (iI ((cb (S.1 i).1 (S.1 i).2 y) + 0))), some (.int (iI ((cb (S.1 j).1 (S.1 j).2 y) + 1))), some (.int (iI ((en (uP S i j) y).1))), some (.int (iI (x))), some (.int (iI (z)))]) (by decide) rfl rfl dX7_mergeIntoResult_130 rfl ?_
                  refine g_iinc (q := 135) (al2 := [some (.ref (0)), some (.ref (5 + 3 * i)), some (.ref (5 + 3 * j)), some (.int (iI ((cb (S.1 i).1 (S.1 i).2 y) + 0))), some (.int (iI ((cb (S.1 j).1 (S.1 j).2 y) + 1))), some (.int (iI (((en (uP S i j) y).1) + 1))), some (.int (iI (x))), some (.int (iI (z)))]) rfl (by decide) rfl rfl dX7_mergeIntoResult_132 rfl ?_
                  refine g_goto (q := 8) dX7_mergeIntoResult_135 rfl ?_
                  refine g_drop (al2 := [some (.ref (0)), some (.ref (5 + 3 * i)), some (.ref (5 + 3 * j)), some (.int (iI ((cb (S.1 i).1 (S.1 i).2 y) + 0))), some (.int (iI ((cb (S.1 j).1 (S.1 j).2 y) + 1))), some (.int (iI (((en (uP S i j) y).1) + 1))), none, some (.int (iI (z)))]) 6 rfl ?_
                  refine g_drop (al2 := [some (.ref (0)), some (.ref (5 + 3 * i)), some (.ref (5 + 3 * j)), some (.int (iI ((cb (S.1 i).1 (S.1 i).2 y) + 0))), some (.int (iI ((cb (S.1 j).1 (S.1 j).2 y) + 1))), some (.int (iI (((en (uP S i j) y).1) + 1))), none, none]) 7 rfl ?_
                  obtain ⟨e1, e2, e3⟩ := mrg_step hO hO2 (y := y) (z := z) (by omega) (by omega) (by omega) (by omega) (by omega)
                  have e4 : (en (uP S i j) ((z).toNat + 1)).1 = (en (uP S i j) y).1 + 1 := by rw [e1]
                  rw [if_neg (by omega)] at e2
                  rw [if_pos (by omega)] at e3
                  have gg := ih ((z).toNat + 1, ui rs ((en (uP S i j) y).1) z, hh11) ⟨by show (z).toNat + 1 ≤ 512; omega, fc15, by rw [e1]; exact ag_ui ha _, fun t ht => by rw [ehh11, ueh_n ht]; exact fr t ht⟩ (by show 512 - ((z).toNat + 1) < 512 - y; omega)
                  simp only [] at gg
                  rw [e2, e3, e4] at gg
                  exact gg
              · refine g_iconst (q := 109) dX7_mergeIntoResult_108 rfl ?_
                refine g_goto (q := 113) dX7_mergeIntoResult_109 rfl ?_
                refine g_iadd (q := 114) dX7_mergeIntoResult_113 rfl ?_
                refine g_istore_n (q := 115) (al2 := [some (.ref (0)), some (.ref (5 + 3 * i)), some (.ref (5 + 3 * j)), some (.int (iI ((cb (S.1 i).1 (S.1 i).2 y) + 1))), some (.int (iI (cb (S.1 j).1 (S.1 j).2 y))), some (.int (iI ((en (uP S i j) y).1))), some (.int (iI (x))), some (.int (iI (z)))]) rfl (by decide) rfl rfl dX7_mergeIntoResult_114 rfl ?_
                refine g_iload (q := 117) rfl dX7_mergeIntoResult_115 rfl ?_
                refine g_iload (q := 119) rfl dX7_mergeIntoResult_117 rfl ?_
                refine g_iload (q := 121) rfl dX7_mergeIntoResult_119 rfl ?_
                refine g_icmp_gt (t := 128) (q := 124) ⟨by omega, by omega⟩ ⟨by omega, by omega⟩ dX7_mergeIntoResult_121 rfl rfl (fun c121 => ?_) (fun c121 => ?_)
                · refine g_iconst (q := 129) dX7_mergeIntoResult_128 rfl ?_
                  refine g_iadd (q := 130) dX7_mergeIntoResult_129 rfl ?_
                  refine g_istore (q := 132) (al2 := [some (.ref (0)), some (.ref (5 + 3 * i)), some (.ref (5 + 3 * j)), some (.int (iI ((cb (S.1 i).1 (S.1 i).2 y) + 1))), some (.int (iI ((cb (S.1 j).1 (S.1 j).2 y) + 0))), some (.int (iI ((en (uP S i j) y).1))), some (.int (iI (x))), some (.int (iI (z)))]) (by decide) rfl rfl dX7_mergeIntoResult_130 rfl ?_
                  refine g_iinc (q := 135) (al2 := [some (.ref (0)), some (.ref (5 + 3 * i)), some (.ref (5 + 3 * j)), some (.int (iI ((cb (S.1 i).1 (S.1 i).2 y) + 1))), some (.int (iI ((cb (S.1 j).1 (S.1 j).2 y) + 0))), some (.int (iI (((en (uP S i j) y).1) + 1))), some (.int (iI (x))), some (.int (iI (z)))]) rfl (by decide) rfl rfl dX7_mergeIntoResult_132 rfl ?_
                  refine g_goto (q := 8) dX7_mergeIntoResult_135 rfl ?_
                  omega
                · refine g_iconst (q := 125) dX7_mergeIntoResult_124 rfl ?_
                  refine g_goto (q := 129) dX7_mergeIntoResult_125 rfl ?_
                  refine g_iadd (q := 130) dX7_mergeIntoResult_129 rfl ?_
                  refine g_istore (q := 132) (al2 := [some (.ref (0)), some (.ref (5 + 3 * i)), some (.ref (5 + 3 * j)), some (.int (iI ((cb (S.1 i).1 (S.1 i).2 y) + 1))), some (.int (iI ((cb (S.1 j).1 (S.1 j).2 y) + 1))), some (.int (iI ((en (uP S i j) y).1))), some (.int (iI (x))), some (.int (iI (z)))]) (by decide) rfl rfl dX7_mergeIntoResult_130 rfl ?_
                  refine g_iinc (q := 135) (al2 := [some (.ref (0)), some (.ref (5 + 3 * i)), some (.ref (5 + 3 * j)), some (.int (iI ((cb (S.1 i).1 (S.1 i).2 y) + 1))), some (.int (iI ((cb (S.1 j).1 (S.1 j).2 y) + 1))), some (.int (iI (((en (uP S i j) y).1) + 1))), some (.int (iI (x))), some (.int (iI (z)))]) rfl (by decide) rfl rfl dX7_mergeIntoResult_132 rfl ?_
                  refine g_goto (q := 8) dX7_mergeIntoResult_135 rfl ?_
                  omega
            · refine g_iload (q := 94) rfl dX7_mergeIntoResult_92 rfl ?_
              refine g_goto (q := 99) dX7_mergeIntoResult_94 rfl ?_
              refine g_iastore (q := 100) (by decide) hr (by omega) (by omega) (by decide) dX7_mergeIntoResult_99 rfl ?_
              refine hp_in (fun hh16 ehh16 => ?_)
              have fc17 : hh16 0 = cO 6 [.ref (1), .ref (17), .ref (83), .ref (86), .ref (88), .ref (89)] := by rw [ehh16, ueh_n (by decide)]; exact q0
              have fc18 : hh16 (5 + 3 * i) = cO 4 [.ref (5 + 3 * i + 1), .int (iI ((S.1 i).1)), .ref (5 + 3 * i + 2), .int (iI (m))] := by rw [ehh16, ueh_n (by omega)]; exact qA.1
              have fc19 : hh16 (5 + 3 * j) = cO 4 [.ref (5 + 3 * j + 1), .int (iI ((S.1 j).1)), .ref (5 + 3 * j + 2), .int (iI (m2))] := by rw [ehh16, ueh_n (by omega)]; exact qA2.1
              have fc20 : hh16 89 = cI 128 (ui rs ((en (uP S i j) y).1) x) := by rw [ehh16]; exact ueh_s
              refine g_iload_n (q := 101) rfl rfl dX7_mergeIntoResult_100 rfl ?_
              refine g_iload (q := 103) rfl dX7_mergeIntoResult_101 rfl ?_
              refine g_iload (q := 105) rfl dX7_mergeIntoResult_103 rfl ?_
              refine g_icmp_gt (t := 112) (q := 108) ⟨by omega, by omega⟩ ⟨by omega, by omega⟩ dX7_mergeIntoResult_105 rfl rfl (fun c105 => ?_) (fun c105 => ?_)
              · refine g_iconst (q := 113) dX7_mergeIntoResult_112 rfl ?_
                refine g_iadd (q := 114) dX7_mergeIntoResult_113 rfl ?_
                refine g_istore_n (q := 115) (al2 := [some (.ref (0)), some (.ref (5 + 3 * i)), some (.ref (5 + 3 * j)), some (.int (iI ((cb (S.1 i).1 (S.1 i).2 y) + 0))), some (.int (iI (cb (S.1 j).1 (S.1 j).2 y))), some (.int (iI ((en (uP S i j) y).1))), some (.int (iI (x))), some (.int (iI (z)))]) rfl (by decide) rfl rfl dX7_mergeIntoResult_114 rfl ?_
                refine g_iload (q := 117) rfl dX7_mergeIntoResult_115 rfl ?_
                refine g_iload (q := 119) rfl dX7_mergeIntoResult_117 rfl ?_
                refine g_iload (q := 121) rfl dX7_mergeIntoResult_119 rfl ?_
                refine g_icmp_gt (t := 128) (q := 124) ⟨by omega, by omega⟩ ⟨by omega, by omega⟩ dX7_mergeIntoResult_121 rfl rfl (fun c121 => ?_) (fun c121 => ?_)
                · refine g_iconst (q := 129) dX7_mergeIntoResult_128 rfl ?_
                  refine g_iadd (q := 130) dX7_mergeIntoResult_129 rfl ?_
                  refine g_istore (q := 132) (al2 := [some (.ref (0)), some (.ref (5 + 3 * i)), some (.ref (5 + 3 * j)), some (.int (iI ((cb (S.1 i).1 (S.1 i).2 y) + 0))), some (.int (iI ((cb (S.1 j).1 (S.1 j).2 y) + 0))), some (.int (iI ((en (uP S i j) y).1))), some (.int (iI (x))), some (.int (iI (z)))]) (by decide) rfl rfl dX7_mergeIntoResult_130 rfl ?_
                  refine g_iinc (q := 135) (al2 := [some (.ref (0)), some (.ref (5 + 3 * i)), some (.ref (5 + 3 * j)), some (.int (iI ((cb (S.1 i).1 (S.1 i).2 y) + 0))), some (.int (iI ((cb (S.1 j).1 (S.1 j).2 y) + 0))), some (.int (iI (((en (uP S i j) y).1) + 1))), some (.int (iI (x))), some (.int (iI (z)))]) rfl (by decide) rfl rfl dX7_mergeIntoResult_132 rfl ?_
                  refine g_goto (q := 8) dX7_mergeIntoResult_135 rfl ?_
                  omega
                · refine g_iconst (q := 125) dX7_mergeIntoResult_124 rfl ?_
                  refine g_goto (q := 129) dX7_mergeIntoResult_125 rfl ?_
                  refine g_iadd (q := 130) dX7_mergeIntoResult_129 rfl ?_
                  refine g_istore (q := 132) (al2 := [some (.ref (0)), some (.ref (5 + 3 * i)), some (.ref (5 + 3 * j)), some (.int (iI ((cb (S.1 i).1 (S.1 i).2 y) + 0))), some (.int (iI ((cb (S.1 j).1 (S.1 j).2 y) + 1))), some (.int (iI ((en (uP S i j) y).1))), some (.int (iI (x))), some (.int (iI (z)))]) (by decide) rfl rfl dX7_mergeIntoResult_130 rfl ?_
                  refine g_iinc (q := 135) (al2 := [some (.ref (0)), some (.ref (5 + 3 * i)), some (.ref (5 + 3 * j)), some (.int (iI ((cb (S.1 i).1 (S.1 i).2 y) + 0))), some (.int (iI ((cb (S.1 j).1 (S.1 j).2 y) + 1))), some (.int (iI (((en (uP S i j) y).1) + 1))), some (.int (iI (x))), some (.int (iI (z)))]) rfl (by decide) rfl rfl dX7_mergeIntoResult_132 rfl ?_
                  refine g_goto (q := 8) dX7_mergeIntoResult_135 rfl ?_
                  omega
              · refine g_iconst (q := 109) dX7_mergeIntoResult_108 rfl ?_
                refine g_goto (q := 113) dX7_mergeIntoResult_109 rfl ?_
                refine g_iadd (q := 114) dX7_mergeIntoResult_113 rfl ?_
                refine g_istore_n (q := 115) (al2 := [some (.ref (0)), some (.ref (5 + 3 * i)), some (.ref (5 + 3 * j)), some (.int (iI ((cb (S.1 i).1 (S.1 i).2 y) + 1))), some (.int (iI (cb (S.1 j).1 (S.1 j).2 y))), some (.int (iI ((en (uP S i j) y).1))), some (.int (iI (x))), some (.int (iI (z)))]) rfl (by decide) rfl rfl dX7_mergeIntoResult_114 rfl ?_
                refine g_iload (q := 117) rfl dX7_mergeIntoResult_115 rfl ?_
                refine g_iload (q := 119) rfl dX7_mergeIntoResult_117 rfl ?_
                refine g_iload (q := 121) rfl dX7_mergeIntoResult_119 rfl ?_
                refine g_icmp_gt (t := 128) (q := 124) ⟨by omega, by omega⟩ ⟨by omega, by omega⟩ dX7_mergeIntoResult_121 rfl rfl (fun c121 => ?_) (fun c121 => ?_)
                · refine g_iconst (q := 129) dX7_mergeIntoResult_128 rfl ?_
                  refine g_iadd (q := 130) dX7_mergeIntoResult_129 rfl ?_
                  refine g_istore (q := 132) (al2 := [some (.ref (0)), some (.ref (5 + 3 * i)), some (.ref (5 + 3 * j)), some (.int (iI ((cb (S.1 i).1 (S.1 i).2 y) + 1))), some (.int (iI ((cb (S.1 j).1 (S.1 j).2 y) + 0))), some (.int (iI ((en (uP S i j) y).1))), some (.int (iI (x))), some (.int (iI (z)))]) (by decide) rfl rfl dX7_mergeIntoResult_130 rfl ?_
                  refine g_iinc (q := 135) (al2 := [some (.ref (0)), some (.ref (5 + 3 * i)), some (.ref (5 + 3 * j)), some (.int (iI ((cb (S.1 i).1 (S.1 i).2 y) + 1))), some (.int (iI ((cb (S.1 j).1 (S.1 j).2 y) + 0))), some (.int (iI (((en (uP S i j) y).1) + 1))), some (.int (iI (x))), some (.int (iI (z)))]) rfl (by decide) rfl rfl dX7_mergeIntoResult_132 rfl ?_
                  refine g_goto (q := 8) dX7_mergeIntoResult_135 rfl ?_
                  refine g_drop (al2 := [some (.ref (0)), some (.ref (5 + 3 * i)), some (.ref (5 + 3 * j)), some (.int (iI ((cb (S.1 i).1 (S.1 i).2 y) + 1))), some (.int (iI ((cb (S.1 j).1 (S.1 j).2 y) + 0))), some (.int (iI (((en (uP S i j) y).1) + 1))), none, some (.int (iI (z)))]) 6 rfl ?_
                  refine g_drop (al2 := [some (.ref (0)), some (.ref (5 + 3 * i)), some (.ref (5 + 3 * j)), some (.int (iI ((cb (S.1 i).1 (S.1 i).2 y) + 1))), some (.int (iI ((cb (S.1 j).1 (S.1 j).2 y) + 0))), some (.int (iI (((en (uP S i j) y).1) + 1))), none, none]) 7 rfl ?_
                  obtain ⟨e1, e2, e3⟩ := mrg_step hO hO2 (y := y) (z := x) (by omega) (by omega) (by omega) (by omega) (by omega)
                  have e4 : (en (uP S i j) ((x).toNat + 1)).1 = (en (uP S i j) y).1 + 1 := by rw [e1]
                  rw [if_pos (by omega)] at e2
                  rw [if_neg (by omega)] at e3
                  have gg := ih ((x).toNat + 1, ui rs ((en (uP S i j) y).1) x, hh16) ⟨by show (x).toNat + 1 ≤ 512; omega, fc20, by rw [e1]; exact ag_ui ha _, fun t ht => by rw [ehh16, ueh_n ht]; exact fr t ht⟩ (by show 512 - ((x).toNat + 1) < 512 - y; omega)
                  simp only [] at gg
                  rw [e2, e3, e4] at gg
                  exact gg
                · refine g_iconst (q := 125) dX7_mergeIntoResult_124 rfl ?_
                  refine g_goto (q := 129) dX7_mergeIntoResult_125 rfl ?_
                  refine g_iadd (q := 130) dX7_mergeIntoResult_129 rfl ?_
                  refine g_istore (q := 132) (al2 := [some (.ref (0)), some (.ref (5 + 3 * i)), some (.ref (5 + 3 * j)), some (.int (iI ((cb (S.1 i).1 (S.1 i).2 y) + 1))), some (.int (iI ((cb (S.1 j).1 (S.1 j).2 y) + 1))), some (.int (iI ((en (uP S i j) y).1))), some (.int (iI (x))), some (.int (iI (z)))]) (by decide) rfl rfl dX7_mergeIntoResult_130 rfl ?_
                  refine g_iinc (q := 135) (al2 := [some (.ref (0)), some (.ref (5 + 3 * i)), some (.ref (5 + 3 * j)), some (.int (iI ((cb (S.1 i).1 (S.1 i).2 y) + 1))), some (.int (iI ((cb (S.1 j).1 (S.1 j).2 y) + 1))), some (.int (iI (((en (uP S i j) y).1) + 1))), some (.int (iI (x))), some (.int (iI (z)))]) rfl (by decide) rfl rfl dX7_mergeIntoResult_132 rfl ?_
                  refine g_goto (q := 8) dX7_mergeIntoResult_135 rfl ?_
                  refine g_drop (al2 := [some (.ref (0)), some (.ref (5 + 3 * i)), some (.ref (5 + 3 * j)), some (.int (iI ((cb (S.1 i).1 (S.1 i).2 y) + 1))), some (.int (iI ((cb (S.1 j).1 (S.1 j).2 y) + 1))), some (.int (iI (((en (uP S i j) y).1) + 1))), none, some (.int (iI (z)))]) 6 rfl ?_
                  refine g_drop (al2 := [some (.ref (0)), some (.ref (5 + 3 * i)), some (.ref (5 + 3 * j)), some (.int (iI ((cb (S.1 i).1 (S.1 i).2 y) + 1))), some (.int (iI ((cb (S.1 j).1 (S.1 j).2 y) + 1))), some (.int (iI (((en (uP S i j) y).1) + 1))), none, none]) 7 rfl ?_
                  obtain ⟨e1, e2, e3⟩ := mrg_step hO hO2 (y := y) (z := x) (by omega) (by omega) (by omega) (by omega) (by omega)
                  have e4 : (en (uP S i j) ((x).toNat + 1)).1 = (en (uP S i j) y).1 + 1 := by rw [e1]
                  rw [if_pos (by omega)] at e2
                  rw [if_pos (by omega)] at e3
                  have gg := ih ((x).toNat + 1, ui rs ((en (uP S i j) y).1) x, hh16) ⟨by show (x).toNat + 1 ≤ 512; omega, fc20, by rw [e1]; exact ag_ui ha _, fun t ht => by rw [ehh16, ueh_n ht]; exact fr t ht⟩ (by show 512 - ((x).toNat + 1) < 512 - y; omega)
                  simp only [] at gg
                  rw [e2, e3, e4] at gg
                  exact gg
          refine g_icmp_ge (t := 74) (q := 65) ⟨by omega, by omega⟩ ⟨by omega, by omega⟩ dX7_mergeIntoResult_62 rfl rfl (fun c62 => ?_) (fun c62 => ?_)
          · refine g_sipush (q := 77) (by decide) dX7_mergeIntoResult_74 rfl ?_
            refine g_istore (q := 79) (al2 := [some (.ref (0)), some (.ref (5 + 3 * i)), some (.ref (5 + 3 * j)), some (.int (iI (cb (S.1 i).1 (S.1 i).2 y))), some (.int (iI (cb (S.1 j).1 (S.1 j).2 y))), some (.int (iI ((en (uP S i j) y).1))), some (.int (iI (x))), some (.int (iI (512)))]) (by decide) rfl rfl dX7_mergeIntoResult_77 rfl ?_
            exact k79 _ (by unfold nxd; rw [if_neg (by omega)])
          · refine g_aload_n (q := 66) rfl rfl dX7_mergeIntoResult_65 rfl ?_
            refine g_iload (q := 68) rfl dX7_mergeIntoResult_66 rfl ?_
            refine g_Vr (q := 71) (d' := 0) (i := 5 + 3 * j) (av := [.int (iI (cb (S.1 j).1 (S.1 j).2 y))]) (st := []) (v := .int (iI ((S.1 j).2 (cb (S.1 j).1 (S.1 j).2 y)))) kvX7_97 (by have := t_X4_documentAt l h2 (5 + 3 * j) (S.1 j).1 m2 ds2 fa2 qA2 hOd2 (cb (S.1 j).1 (S.1 j).2 y) ⟨by omega, by omega⟩; rw [ag_dA hag2, dA_in q1 (by omega)] at this; exact this) (by show _ < 103; omega) qA2.1 rfl (Nat.le_of_ble_eq_true rfl) ⟨(Nat.le_of_ble_eq_true rfl), (Nat.le_of_ble_eq_true rfl)⟩ ⟨(Nat.le_of_ble_eq_true rfl), (Nat.le_of_ble_eq_true rfl)⟩ rfl rfl dX7_mergeIntoResult_68 rfl ?_
            refine g_goto (q := 77) dX7_mergeIntoResult_71 rfl ?_
            refine g_istore (q := 79) (al2 := [some (.ref (0)), some (.ref (5 + 3 * i)), some (.ref (5 + 3 * j)), some (.int (iI (cb (S.1 i).1 (S.1 i).2 y))), some (.int (iI (cb (S.1 j).1 (S.1 j).2 y))), some (.int (iI ((en (uP S i j) y).1))), some (.int (iI (x))), some (.int (iI ((S.1 j).2 (cb (S.1 j).1 (S.1 j).2 y))))]) (by decide) rfl rfl dX7_mergeIntoResult_77 rfl ?_
            exact k79 _ (by unfold nxd; rw [if_pos (by omega)])
        refine g_iload_n (q := 36) rfl rfl dX7_mergeIntoResult_35 rfl ?_
        refine g_aload_n (q := 37) rfl rfl dX7_mergeIntoResult_36 rfl ?_
        refine g_get (q := 40) fX7_69r (by show _ < 103; omega) qA.1 rfl dX7_mergeIntoResult_37 rfl ?_
        refine g_icmp_ge (t := 51) (q := 43) ⟨by omega, by omega⟩ ⟨by omega, by omega⟩ dX7_mergeIntoResult_40 rfl rfl (fun c40 => ?_) (fun c40 => ?_)
        · refine g_sipush (q := 54) (by decide) dX7_mergeIntoResult_51 rfl ?_
          refine g_istore (q := 56) (al2 := [some (.ref (0)), some (.ref (5 + 3 * i)), some (.ref (5 + 3 * j)), some (.int (iI (cb (S.1 i).1 (S.1 i).2 y))), some (.int (iI (cb (S.1 j).1 (S.1 j).2 y))), some (.int (iI ((en (uP S i j) y).1))), some (.int (iI (512))), none]) (by decide) rfl rfl dX7_mergeIntoResult_54 rfl ?_
          exact k56 _ (by unfold nxd; rw [if_neg (by omega)])
        · refine g_aload_n (q := 44) rfl rfl dX7_mergeIntoResult_43 rfl ?_
          refine g_iload_n (q := 45) rfl rfl dX7_mergeIntoResult_44 rfl ?_
          refine g_Vr (q := 48) (d' := 0) (i := 5 + 3 * i) (av := [.int (iI (cb (S.1 i).1 (S.1 i).2 y))]) (st := []) (v := .int (iI ((S.1 i).2 (cb (S.1 i).1 (S.1 i).2 y)))) kvX7_97 (by have := t_X4_documentAt l h2 (5 + 3 * i) (S.1 i).1 m ds fa qA hOd (cb (S.1 i).1 (S.1 i).2 y) ⟨by omega, by omega⟩; rw [ag_dA hag, dA_in p1 (by omega)] at this; exact this) (by show _ < 103; omega) qA.1 rfl (Nat.le_of_ble_eq_true rfl) ⟨(Nat.le_of_ble_eq_true rfl), (Nat.le_of_ble_eq_true rfl)⟩ ⟨(Nat.le_of_ble_eq_true rfl), (Nat.le_of_ble_eq_true rfl)⟩ rfl rfl dX7_mergeIntoResult_45 rfl ?_
          refine g_goto (q := 54) dX7_mergeIntoResult_48 rfl ?_
          refine g_istore (q := 56) (al2 := [some (.ref (0)), some (.ref (5 + 3 * i)), some (.ref (5 + 3 * j)), some (.int (iI (cb (S.1 i).1 (S.1 i).2 y))), some (.int (iI (cb (S.1 j).1 (S.1 j).2 y))), some (.int (iI ((en (uP S i j) y).1))), some (.int (iI ((S.1 i).2 (cb (S.1 i).1 (S.1 i).2 y)))), none]) (by decide) rfl rfl dX7_mergeIntoResult_54 rfl ?_
          exact k56 _ (by unfold nxd; rw [if_pos (by omega)])
