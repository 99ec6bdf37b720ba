/-! ===== the reference: save, undo ===== -/
set_option maxRecDepth 4000 in
theorem t_X8_save (l : Launch) (h : EHp) (th : Int) (S : ASt) (sv : List ASt) (hM : MRep h th S sv) : CT l mX8_save 0 0 0 [.ref (90)] NN h (vP (fun h' => MRep h' th S (push4 S sv) ∧ ∀ j, j ≠ 90 → j ≠ 92 → h' j = h j)) := by
  obtain ⟨w, pst, bg, mn, lz, hA, ⟨m1, m2, m3, m4, m5⟩, ⟨⟨cs, s1⟩, ⟨ct, s2⟩, ⟨nx, s3⟩, ⟨fd, s4⟩, ⟨od, s5⟩⟩, hW, hP, hY⟩ := id hM
  obtain ⟨hl4, hPr⟩ := id hP
  refine CT.of (by decide) (Nat.le_of_ble_eq_true rfl) ?_
  refine g_al (al2 := [some (.ref (90)), none]) rfl ?_
  have k49 : ∀ (sl : Int) (p2 : Int → Int) (h2 : EHp) (hz : 0 ≤ sl ∧ sl ≤ 3 ∧ h2 90 = cO 7 [.int (iI (th)), .ref (91), .ref (92), .int (iI (sl)), .ref (93), .ref (94), .ref (95), .ref (96), .ref (97), .ref (98), .ref (99), .ref (100)] ∧ h2 92 = cI 1088 p2 ∧ (∀ j, j ≠ 90 → j ≠ 92 → h2 j = h j) ∧ ((push4 S sv).length : Int) = sl + 1 ∧ ∀ (i : Nat) (X : ASt), i < 3 → sv[i]? = some X → WR (fun k => p2 (272 * (sl - 1 - i) + k)) X), G l noX mX8_save 0 0 0 (vP (fun h' => MRep h' th S (push4 S sv) ∧ ∀ j, j ≠ 90 → j ≠ 92 → h' j = h j)) 0 0 49 [some (.ref (90)), none] [] NN h2 := by
    intro sl p2 h2 hz
    obtain ⟨s0, s4_, a2, b2, fr2, el, hS⟩ := hz
    refine g_iconst (q := 50) dX8_save_49 rfl ?_
    refine g_istore_n (q := 51) (al2 := [some (.ref (90)), some (.int (iI (0)))]) rfl (by decide) rfl rfl dX8_save_50 rfl ?_
    refine loopG (σ := Int × (Int → Int) × EHp) (P := fun zz => match zz with | (k, p3, h3) => G l noX mX8_save 0 0 0 (vP (fun h' => MRep h' th S (push4 S sv) ∧ ∀ j, j ≠ 90 → j ≠ 92 → h' j = h j)) 0 0 51 [some (.ref (90)), some (.int (iI (k)))] [] NN h3) (I := fun zz => match zz with | (k, p3, h3) => 0 ≤ k ∧ k ≤ 272 ∧ h3 92 = cI 1088 p3 ∧ (∀ t : Int, 0 ≤ t → t < k → p3 (272 * sl + t) = w t) ∧ (∀ t : Int, t < 272 * sl → p3 t = p2 t) ∧ ∀ j, j ≠ 92 → h3 j = h2 j) (fun zz => match zz with | (k, p3, h3) => (272 - k).toNat) ?_ (0, p2, h2) ⟨by omega, by omega, b2, fun t a b => by omega, fun t _ => rfl, fun _ _ => rfl⟩
    rintro ⟨k, p3, h3⟩ hI ih
    obtain ⟨k0, k1, b3, e1, e2, fr3⟩ := hI
    have a3 : h3 90 = _ := (fr3 90 (by decide)).trans a2
    have c3 : h3 91 = _ := (fr3 91 (by decide)).trans ((fr2 91 (by decide) (by decide)).trans m1)
    refine g_iload_n (q := 52) rfl rfl dX8_save_51 rfl ?_
    refine g_sipush (q := 55) (by decide) dX8_save_52 rfl ?_
    refine g_icmp_ge (t := 85) (q := 58) ⟨by omega, by omega⟩ ⟨by omega, by omega⟩ dX8_save_55 rfl rfl (fun c55 => ?_) (fun c55 => ?_)
    · have ek : k = 272 := by omega
      subst ek
      refine g_aload_n (q := 86) rfl rfl dX8_save_85 rfl ?_
      refine g_dup (q := 87) rfl dX8_save_86 rfl ?_
      refine g_get (q := 90) fX8_49r (by decide) a3 rfl dX8_save_87 rfl ?_
      refine g_iconst (q := 91) dX8_save_90 rfl ?_
      refine g_iadd (q := 92) dX8_save_91 rfl ?_
      refine g_put (q := 95) fX8_49 (by decide) a3 (Nat.le_of_ble_eq_true rfl) (fun _ _ => rfl) (fun _ _ => rfl) dX8_save_92 rfl ?_
      refine hp_in (fun hh1 ehh1 => ?_)
      have fc2 : hh1 90 = cO 7 [.int (iI (th)), .ref (91), .ref (92), .int (iI (sl + 1)), .ref (93), .ref (94), .ref (95), .ref (96), .ref (97), .ref (98), .ref (99), .ref (100)] := by rw [ehh1]; exact ueh_s
      have fc3 : hh1 91 = cI 272 w := by rw [ehh1, ueh_n (by decide)]; exact c3
      have fc4 : hh1 92 = cI 1088 p3 := by rw [ehh1, ueh_n (by decide)]; exact b3
      have fr4 : ∀ j, j ≠ 90 → j ≠ 92 → hh1 j = h j := fun j x y => by rw [ehh1, ueh_n x]; exact (fr3 j y).trans (fr2 j x y)
      exact g_vreturn (fun z => NN_f z) (Nat.le_of_ble_eq_true rfl) (Nat.le_of_ble_eq_true rfl) dX8_save_95 rfl (vP_in ⟨⟨w, p3, bg, mn, lz, (by rw [← el] at *; exact fc2), ⟨fc3, fc4, (fr4 93 (by decide) (by decide)).trans m3, (fr4 94 (by decide) (by decide)).trans m4, (fr4 95 (by decide) (by decide)).trans m5⟩, ⟨⟨cs, (fr4 96 (by decide) (by decide)).trans s1⟩, ⟨ct, (fr4 97 (by decide) (by decide)).trans s2⟩, ⟨nx, (fr4 98 (by decide) (by decide)).trans s3⟩, ⟨fd, (fr4 99 (by decide) (by decide)).trans s4⟩, ⟨od, (fr4 100 (by decide) (by decide)).trans s5⟩⟩, hW, ⟨by omega, fun j X hj => by
            rcases take4 hj with ⟨rfl, rfl⟩ | ⟨i, rfl, hi, z⟩
            · refine hW.congr (fun k a b => ?_)
              show p3 (272 * (((push4 X sv).length : Int) - 1 - (0 : Nat)) + k) = w k
              rw [← e1 k a b]; congr 1; omega
            · refine (hS i X hi z).congr (fun k a b => ?_)
              have hil := (List.getElem?_eq_some_iff.mp z).1
              show p3 (272 * (((push4 S sv).length : Int) - 1 - (i + 1 : Nat)) + k) = p2 (272 * (sl - 1 - i) + k)
              have ei : 272 * (((push4 S sv).length : Int) - 1 - (i + 1 : Nat)) + k = 272 * (sl - 1 - i) + k := by omega
              rw [ei]; exact e2 _ (by omega)⟩, hY⟩, fr4⟩)
    · refine g_aload_n (q := 59) rfl rfl dX8_save_58 rfl ?_
      refine g_get (q := 62) fX8_13r (by decide) a3 rfl dX8_save_59 rfl ?_
      refine g_sipush (q := 65) (by decide) dX8_save_62 rfl ?_
      refine g_aload_n (q := 66) rfl rfl dX8_save_65 rfl ?_
      refine g_get (q := 69) fX8_49r (by decide) a3 rfl dX8_save_66 rfl ?_
      refine g_imul (q := 70) dX8_save_69 rfl ?_
      refine g_iload_n (q := 71) rfl rfl dX8_save_70 rfl ?_
      refine g_iadd (q := 72) dX8_save_71 rfl ?_
      refine g_aload_n (q := 73) rfl rfl dX8_save_72 rfl ?_
      refine g_get (q := 76) fX8_7r (by decide) a3 rfl dX8_save_73 rfl ?_
      refine g_iload_n (q := 77) rfl rfl dX8_save_76 rfl ?_
      refine g_iaload (q := 78) (by decide) c3 (by omega) (by omega) (by decide) dX8_save_77 rfl ?_
      refine g_iastore (q := 79) (by decide) b3 (by omega) (by omega) (by decide) dX8_save_78 rfl ?_
      refine hp_in (fun hh5 ehh5 => ?_)
      have fc6 : hh5 90 = cO 7 [.int (iI (th)), .ref (91), .ref (92), .int (iI (sl)), .ref (93), .ref (94), .ref (95), .ref (96), .ref (97), .ref (98), .ref (99), .ref (100)] := by rw [ehh5, ueh_n (by decide)]; exact a3
      have fc7 : hh5 91 = cI 272 w := by rw [ehh5, ueh_n (by decide)]; exact c3
      have fc8 : hh5 92 = cI 1088 (ui p3 ((272 * sl) + k) (w k)) := by rw [ehh5]; exact ueh_s
      refine g_iinc (q := 82) (al2 := [some (.ref (90)), some (.int (iI (k + 1)))]) rfl (by decide) rfl rfl dX8_save_79 rfl ?_
      refine g_goto (q := 51) dX8_save_82 rfl ?_
      exact ih (k + 1, ui p3 ((272 * sl) + k) (w k), hh5) ⟨by omega, by omega, fc8, fun t a b => by
          unfold ui
          by_cases e : t = k
          · rw [if_pos (by omega), e]
          · rw [if_neg (by omega)]; exact e1 t a (by omega), fun t a => by unfold ui; rw [if_neg (by omega)]; exact e2 t a, fun j hj => by rw [ehh5, ueh_n hj]; exact fr3 j hj⟩ (by show (272 - (k + 1)).toNat < (272 - k).toNat; omega)
  refine g_aload_n (q := 1) rfl rfl dX8_save_0 rfl ?_
  refine g_get (q := 4) fX8_49r (by decide) hA rfl dX8_save_1 rfl ?_
  refine g_iconst (q := 5) dX8_save_4 rfl ?_
  refine g_icmp_ne (t := 49) (q := 8) ⟨by omega, by omega⟩ ⟨by omega, by omega⟩ dX8_save_5 rfl rfl (fun c5 => ?_) (fun c5 => ?_)
  · exact k49 sv.length pst h ⟨by omega, by omega, hA, m2, fun _ _ _ => rfl, by unfold push4; rw [List.length_take, List.length_cons]; omega, fun i X hi z => hPr i X z⟩
  · refine g_iconst (q := 9) dX8_save_8 rfl ?_
    refine g_istore_n (q := 10) (al2 := [some (.ref (90)), some (.int (iI (0)))]) rfl (by decide) rfl rfl dX8_save_9 rfl ?_
    refine loopG (σ := Int × (Int → Int) × EHp) (P := fun zz => match zz with | (k, p3, h3) => G l noX mX8_save 0 0 0 (vP (fun h' => MRep h' th S (push4 S sv) ∧ ∀ j, j ≠ 90 → j ≠ 92 → h' j = h j)) 0 0 10 [some (.ref (90)), some (.int (iI (k)))] [] NN h3) (I := fun zz => match zz with | (k, p3, h3) => 0 ≤ k ∧ k ≤ 816 ∧ h3 92 = cI 1088 p3 ∧ (∀ t : Int, 0 ≤ t → t < k → p3 t = pst (t + 272)) ∧ (∀ t : Int, k ≤ t → p3 t = pst t) ∧ ∀ j, j ≠ 92 → h3 j = h j) (fun zz => match zz with | (k, p3, h3) => (816 - k).toNat) ?_ (0, pst, h) ⟨by omega, by omega, m2, fun t a b => by omega, fun t _ => rfl, fun _ _ => rfl⟩
    rintro ⟨k, p3, h3⟩ hI ih
    obtain ⟨k0, k1, b3, e1, e2, fr3⟩ := hI
    have a3 : h3 90 = _ := (fr3 90 (by decide)).trans hA
    refine g_iload_n (q := 11) rfl rfl dX8_save_10 rfl ?_
    refine g_sipush (q := 14) (by decide) dX8_save_11 rfl ?_
    refine g_icmp_ge (t := 39) (q := 17) ⟨by omega, by omega⟩ ⟨by omega, by omega⟩ dX8_save_14 rfl rfl (fun c14 => ?_) (fun c14 => ?_)
    · have ek : k = 816 := by omega
      subst ek
      refine g_aload_n (q := 40) rfl rfl dX8_save_39 rfl ?_
      refine g_dup (q := 41) rfl dX8_save_40 rfl ?_
      refine g_get (q := 44) fX8_49r (by decide) a3 rfl dX8_save_41 rfl ?_
      refine g_iconst (q := 45) dX8_save_44 rfl ?_
      refine g_isub (q := 46) dX8_save_45 rfl ?_
      refine g_put (q := 49) fX8_49 (by decide) a3 (Nat.le_of_ble_eq_true rfl) (fun _ _ => rfl) (fun _ _ => rfl) dX8_save_46 rfl ?_
      refine hp_in (fun hh9 ehh9 => ?_)
      have fc10 : hh9 90 = cO 7 [.int (iI (th)), .ref (91), .ref (92), .int (iI (sv.length - 1)), .ref (93), .ref (94), .ref (95), .ref (96), .ref (97), .ref (98), .ref (99), .ref (100)] := by rw [ehh9]; exact ueh_s
      have fc11 : hh9 92 = cI 1088 p3 := by rw [ehh9, ueh_n (by decide)]; exact b3
      refine g_drop (al2 := [some (.ref (90)), none]) 1 rfl ?_
      exact k49 (sv.length - 1) p3 hh9 ⟨by omega, by omega, fc10, fc11, fun j x y => by rw [ehh9, ueh_n x]; exact fr3 j y, by unfold push4; rw [List.length_take, List.length_cons]; omega, fun i X hi z => (hPr i X z).congr (fun k a b => by
          show p3 (272 * ((sv.length : Int) - 1 - 1 - i) + k) = pst (272 * ((sv.length : Int) - 1 - i) + k)
          rw [e1 _ (by omega) (by omega)]; congr 1; omega)⟩
    · refine g_aload_n (q := 18) rfl rfl dX8_save_17 rfl ?_
      refine g_get (q := 21) fX8_13r (by decide) a3 rfl dX8_save_18 rfl ?_
      refine g_iload_n (q := 22) rfl rfl dX8_save_21 rfl ?_
      refine g_aload_n (q := 23) rfl rfl dX8_save_22 rfl ?_
      refine g_get (q := 26) fX8_13r (by decide) a3 rfl dX8_save_23 rfl ?_
      refine g_iload_n (q := 27) rfl rfl dX8_save_26 rfl ?_
      refine g_sipush (q := 30) (by decide) dX8_save_27 rfl ?_
      refine g_iadd (q := 31) dX8_save_30 rfl ?_
      refine g_iaload (q := 32) (by decide) b3 (by omega) (by omega) (by decide) dX8_save_31 rfl ?_
      refine g_iastore (q := 33) (by decide) b3 (by omega) (by omega) (by decide) dX8_save_32 rfl ?_
      refine hp_in (fun hh12 ehh12 => ?_)
      have fc13 : hh12 90 = cO 7 [.int (iI (th)), .ref (91), .ref (92), .int (iI (sv.length)), .ref (93), .ref (94), .ref (95), .ref (96), .ref (97), .ref (98), .ref (99), .ref (100)] := by rw [ehh12, ueh_n (by decide)]; exact a3
      have fc14 : hh12 92 = cI 1088 (ui p3 k (p3 (k + 272))) := by rw [ehh12]; exact ueh_s
      refine g_iinc (q := 36) (al2 := [some (.ref (90)), some (.int (iI (k + 1)))]) rfl (by decide) rfl rfl dX8_save_33 rfl ?_
      refine g_goto (q := 10) dX8_save_36 rfl ?_
      exact ih (k + 1, ui p3 k (p3 (k + 272)), hh12) ⟨by omega, by omega, fc14, fun t a b => by
          unfold ui
          by_cases e : t = k
          · rw [if_pos (by omega), e, e2 _ (by omega)]
          · rw [if_neg (by omega)]; exact e1 t a (by omega), fun t a => by unfold ui; rw [if_neg (by omega)]; exact e2 t (by omega), fun j hj => by rw [ehh12, ueh_n hj]; exact fr3 j hj⟩ (by show (816 - (k + 1)).toNat < (816 - k).toNat; omega)
set_option maxRecDepth 4000 in
theorem t_X8_undo (l : Launch) (h : EHp) (th : Int) (S R : ASt) (sv : List ASt) (hM : MRep h th S (R :: sv)) : CT l mX8_undo 1 0 0 [.ref (90)] NN h (wP (fun v h' => v = .int (iI sv.length) ∧ MRep h' 0 R sv ∧ FrM h h')) := by
  obtain ⟨w, pst, bg, mn, lz, hA, ⟨m1, m2, m3, m4, m5⟩, ⟨⟨cs, s1⟩, ⟨ct, s2⟩, ⟨nx, s3⟩, ⟨fd, s4⟩, ⟨od, s5⟩⟩, hW, hP, hY⟩ := id hM
  obtain ⟨hl4, hPr⟩ := id hP
  have hln : ((R :: sv).length : Int) = sv.length + 1 := by rw [List.length_cons]; omega
  have hR := hPr 0 R rfl
  refine CT.of (by decide) (Nat.le_of_ble_eq_true rfl) ?_
  refine g_al (al2 := [some (.ref (90)), none]) rfl ?_
  refine g_aload_n (q := 1) rfl rfl dX8_undo_0 rfl ?_
  refine g_iconst (q := 2) dX8_undo_1 rfl ?_
  refine g_put (q := 5) fX8_41 (by decide) hA (Nat.le_of_ble_eq_true rfl) (fun _ _ => rfl) (fun _ _ => rfl) dX8_undo_2 rfl ?_
  refine hp_in (fun hh1 ehh1 => ?_)
  have fc2 : hh1 90 = cO 7 [.int (iI (0)), .ref (91), .ref (92), .int (iI ((R :: sv).length)), .ref (93), .ref (94), .ref (95), .ref (96), .ref (97), .ref (98), .ref (99), .ref (100)] := by rw [ehh1]; exact ueh_s
  have fc3 : hh1 91 = cI 272 w := by rw [ehh1, ueh_n (by decide)]; exact m1
  have fc4 : hh1 92 = cI 1088 pst := by rw [ehh1, ueh_n (by decide)]; exact m2
  refine g_aload_n (q := 6) rfl rfl dX8_undo_5 rfl ?_
  refine g_get (q := 9) fX8_49r (by decide) fc2 rfl dX8_undo_6 rfl ?_
  refine g_if_ne (t := 18) (q := 12) ⟨by omega, by omega⟩ dX8_undo_9 rfl rfl (fun c9 => ?_) (fun c9 => ?_)
  · refine g_aload_n (q := 19) rfl rfl dX8_undo_18 rfl ?_
    refine g_dup (q := 20) rfl dX8_undo_19 rfl ?_
    refine g_get (q := 23) fX8_49r (by decide) fc2 rfl dX8_undo_20 rfl ?_
    refine g_iconst (q := 24) dX8_undo_23 rfl ?_
    refine g_isub (q := 25) dX8_undo_24 rfl ?_
    refine g_put (q := 28) fX8_49 (by decide) fc2 (Nat.le_of_ble_eq_true rfl) (fun _ _ => rfl) (fun _ _ => rfl) dX8_undo_25 rfl ?_
    refine hp_in (fun hh5 ehh5 => ?_)
    have fc6 : hh5 90 = cO 7 [.int (iI (0)), .ref (91), .ref (92), .int (iI (((R :: sv).length) - 1)), .ref (93), .ref (94), .ref (95), .ref (96), .ref (97), .ref (98), .ref (99), .ref (100)] := by rw [ehh5]; exact ueh_s
    have fc7 : hh5 91 = cI 272 w := by rw [ehh5, ueh_n (by decide)]; exact fc3
    have fc8 : hh5 92 = cI 1088 pst := by rw [ehh5, ueh_n (by decide)]; exact fc4
    refine g_iconst (q := 29) dX8_undo_28 rfl ?_
    refine g_istore_n (q := 30) (al2 := [some (.ref (90)), some (.int (iI (0)))]) rfl (by decide) rfl rfl dX8_undo_29 rfl ?_
    have f2 : ∀ j, j ≠ 90 → hh5 j = h j := fun j hj => by rw [ehh5, ueh_n hj, ehh1, ueh_n hj]
    have a2 : hh5 90 = _ := fc6
    refine loopG (σ := Int × (Int → Int) × EHp) (P := fun zz => match zz with | (k, w3, h3) => G l noX mX8_undo 1 0 0 (wP (fun v h' => v = .int (iI sv.length) ∧ MRep h' 0 R sv ∧ FrM h h')) 0 0 30 [some (.ref (90)), some (.int (iI (k)))] [] NN h3) (I := fun zz => match zz with | (k, w3, h3) => 0 ≤ k ∧ k ≤ 272 ∧ h3 91 = cI 272 w3 ∧ (∀ t : Int, 0 ≤ t → t < k → w3 t = pst (272 * sv.length + t)) ∧ ∀ j, j ≠ 91 → h3 j = hh5 j) (fun zz => match zz with | (k, w3, h3) => (272 - k).toNat) ?_ (0, w, hh5) ⟨by omega, by omega, fc7, fun t a b => by omega, fun _ _ => rfl⟩
    rintro ⟨k, w3, h3⟩ hI ih
    obtain ⟨k0, k1, b3, e1, fr3⟩ := hI
    have a3 : h3 90 = _ := (fr3 90 (by decide)).trans a2
    have c3 : h3 92 = _ := (fr3 92 (by decide)).trans ((f2 92 (by decide)).trans m2)
    refine g_iload_n (q := 31) rfl rfl dX8_undo_30 rfl ?_
    refine g_sipush (q := 34) (by decide) dX8_undo_31 rfl ?_
    refine g_icmp_ge (t := 64) (q := 37) ⟨by omega, by omega⟩ ⟨by omega, by omega⟩ dX8_undo_34 rfl rfl (fun c34 => ?_) (fun c34 => ?_)
    · have ek : k = 272 := by omega
      subst ek
      have d3 : h3 95 = _ := (fr3 95 (by decide)).trans ((f2 95 (by decide)).trans m5)
      refine g_iconst (q := 65) dX8_undo_64 rfl ?_
      refine g_istore_n (q := 66) (al2 := [some (.ref (90)), some (.int (iI (0)))]) rfl (by decide) rfl rfl dX8_undo_65 rfl ?_
      refine loopG (σ := Int × (Int → Int) × EHp) (P := fun zz => match zz with | (k, l3, h4) => G l noX mX8_undo 1 0 0 (wP (fun v h' => v = .int (iI sv.length) ∧ MRep h' 0 R sv ∧ FrM h h')) 0 0 66 [some (.ref (90)), some (.int (iI (k)))] [] NN h4) (I := fun zz => match zz with | (k, l3, h4) => 0 ≤ k ∧ k ≤ 4 ∧ h4 95 = cZ 4 l3 ∧ (∀ t : Int, 0 ≤ t → t < k → l3 t = 0) ∧ ∀ j, j ≠ 95 → h4 j = h3 j) (fun zz => match zz with | (k, l3, h4) => (4 - k).toNat) ?_ (0, lz, h3) ⟨by omega, by omega, d3, fun t a b => by omega, fun _ _ => rfl⟩
      rintro ⟨k, l3, h4⟩ hI ih
      obtain ⟨y0, y1, b4, e4, fr4⟩ := hI
      have a4 : h4 90 = _ := (fr4 90 (by decide)).trans a3
      refine g_iload_n (q := 67) rfl rfl dX8_undo_66 rfl ?_
      refine g_iconst (q := 68) dX8_undo_67 rfl ?_
      refine g_icmp_ge (t := 84) (q := 71) ⟨by omega, by omega⟩ ⟨by omega, by omega⟩ dX8_undo_68 rfl rfl (fun c68 => ?_) (fun c68 => ?_)
      · have ek : k = 4 := by omega
        subst ek
        have el : ((R :: sv).length : Int) - 1 = sv.length := by omega
        rw [el] at a4
        have ff : ∀ j, j ≠ 90 → j ≠ 91 → j ≠ 95 → h4 j = h j := fun j x y z => (fr4 j z).trans ((fr3 j y).trans (f2 j x))
        refine g_aload_n (q := 85) rfl rfl dX8_undo_84 rfl ?_
        refine g_get (q := 88) fX8_49r (by decide) a4 rfl dX8_undo_85 rfl ?_
        exact g_ireturn (fun z => NN_f z) (Nat.le_of_ble_eq_true rfl) (Nat.le_of_ble_eq_true rfl) dX8_undo_88 rfl (wP_in ⟨rfl, ⟨w3, pst, bg, mn, l3, a4, ⟨(fr4 91 (by decide)).trans b3, (ff 92 (by decide) (by decide) (by decide)).trans m2, (ff 93 (by decide) (by decide) (by decide)).trans m3, (ff 94 (by decide) (by decide) (by decide)).trans m4, b4⟩, ⟨⟨cs, (ff 96 (by decide) (by decide) (by decide)).trans s1⟩, ⟨ct, (ff 97 (by decide) (by decide) (by decide)).trans s2⟩, ⟨nx, (ff 98 (by decide) (by decide) (by decide)).trans s3⟩, ⟨fd, (ff 99 (by decide) (by decide) (by decide)).trans s4⟩, ⟨od, (ff 100 (by decide) (by decide) (by decide)).trans s5⟩⟩, hR.congr (fun k a b => by
              show w3 k = pst (272 * (((R :: sv).length : Int) - 1 - (0 : Nat)) + k)
              rw [e1 k a b]; congr 1; omega), ⟨by rw [List.length_cons] at hl4; omega, fun j X hj => (hPr (j + 1) X (by simpa using hj)).congr (fun k a b => by
              show pst (272 * ((sv.length : Int) - 1 - j) + k) = pst (272 * (((R :: sv).length : Int) - 1 - (j + 1 : Nat)) + k)
              congr 1; omega)⟩, fun j hj => ⟨Or.inl (e4 j (by omega) (by omega)), fun z => by rw [e4 j (by omega) (by omega)] at z; omega⟩⟩, fun j hj => ff j (by omega) (by omega) (by omega)⟩)
      · refine g_aload_n (q := 72) rfl rfl dX8_undo_71 rfl ?_
        refine g_get (q := 75) fX8_22r (by decide) a4 rfl dX8_undo_72 rfl ?_
        refine g_iload_n (q := 76) rfl rfl dX8_undo_75 rfl ?_
        refine g_iconst (q := 77) dX8_undo_76 rfl ?_
        refine g_bastore (q := 78) (by decide) (by decide) b4 (by omega) (by omega) (by decide) dX8_undo_77 rfl ?_
        refine hp_in (fun hh9 ehh9 => ?_)
        have fc10 : hh9 90 = cO 7 [.int (iI (0)), .ref (91), .ref (92), .int (iI (((R :: sv).length : Int) - 1)), .ref (93), .ref (94), .ref (95), .ref (96), .ref (97), .ref (98), .ref (99), .ref (100)] := by rw [ehh9, ueh_n (by decide)]; exact a4
        have fc11 : hh9 95 = cZ 4 (ui l3 k 0) := by rw [ehh9]; exact ueh_s
        refine g_iinc (q := 81) (al2 := [some (.ref (90)), some (.int (iI (k + 1)))]) rfl (by decide) rfl rfl dX8_undo_78 rfl ?_
        refine g_goto (q := 66) dX8_undo_81 rfl ?_
        exact ih (k + 1, ui l3 k 0, hh9) ⟨by omega, by omega, fc11, fun t a b => by
            unfold ui
            by_cases e : t = k
            · rw [if_pos e]
            · rw [if_neg e]; exact e4 t a (by omega), fun j hj => by rw [ehh9, ueh_n hj]; exact fr4 j hj⟩ (by show (4 - (k + 1)).toNat < (4 - k).toNat; omega)
    · refine g_aload_n (q := 38) rfl rfl dX8_undo_37 rfl ?_
      refine g_get (q := 41) fX8_7r (by decide) a3 rfl dX8_undo_38 rfl ?_
      refine g_iload_n (q := 42) rfl rfl dX8_undo_41 rfl ?_
      refine g_aload_n (q := 43) rfl rfl dX8_undo_42 rfl ?_
      refine g_get (q := 46) fX8_13r (by decide) a3 rfl dX8_undo_43 rfl ?_
      refine g_sipush (q := 49) (by decide) dX8_undo_46 rfl ?_
      refine g_aload_n (q := 50) rfl rfl dX8_undo_49 rfl ?_
      refine g_get (q := 53) fX8_49r (by decide) a3 rfl dX8_undo_50 rfl ?_
      refine g_imul (q := 54) dX8_undo_53 rfl ?_
      refine g_iload_n (q := 55) rfl rfl dX8_undo_54 rfl ?_
      refine g_iadd (q := 56) dX8_undo_55 rfl ?_
      refine g_iaload (q := 57) (by decide) c3 (by omega) (by omega) (by decide) dX8_undo_56 rfl ?_
      refine g_iastore (q := 58) (by decide) b3 (by omega) (by omega) (by decide) dX8_undo_57 rfl ?_
      refine hp_in (fun hh12 ehh12 => ?_)
      have fc13 : hh12 90 = cO 7 [.int (iI (0)), .ref (91), .ref (92), .int (iI (((R :: sv).length : Int) - 1)), .ref (93), .ref (94), .ref (95), .ref (96), .ref (97), .ref (98), .ref (99), .ref (100)] := by rw [ehh12, ueh_n (by decide)]; exact a3
      have fc14 : hh12 91 = cI 272 (ui w3 k (pst ((272 * (((R :: sv).length : Int) - 1)) + k))) := by rw [ehh12]; exact ueh_s
      have fc15 : hh12 92 = cI 1088 pst := by rw [ehh12, ueh_n (by decide)]; exact c3
      refine g_iinc (q := 61) (al2 := [some (.ref (90)), some (.int (iI (k + 1)))]) rfl (by decide) rfl rfl dX8_undo_58 rfl ?_
      refine g_goto (q := 30) dX8_undo_61 rfl ?_
      exact ih (k + 1, ui w3 k (pst ((272 * (((R :: sv).length : Int) - 1)) + k)), hh12) ⟨by omega, by omega, fc14, fun t a b => by
          unfold ui
          by_cases e : t = k
          · rw [if_pos e, e]; congr 1; congr 1; congr 1; omega
          · rw [if_neg e]; exact e1 t a (by omega), fun j hj => by rw [ehh12, ueh_n hj]; exact fr3 j hj⟩ (by show (272 - (k + 1)).toNat < (272 - k).toNat; omega)
  · omega
set_option maxRecDepth 4000 in
theorem f_X8_undo (l : Launch) (h : EHp) (th : Int) (S : ASt) (hM : MRep h th S []) : CT l mX8_undo 1 0 0 [.ref (90)] NN h (wP (fun v h' => v = .int (iI 0) ∧ MRep h' 1 S [] ∧ FrM h h')) := by
  obtain ⟨w, pst, bg, mn, lz, hA, ⟨m1, m2, m3, m4, m5⟩, ⟨⟨cs, s1⟩, ⟨ct, s2⟩, ⟨nx, s3⟩, ⟨fd, s4⟩, ⟨od, s5⟩⟩, hW, hP, hY⟩ := id hM
  refine CT.of (by decide) (Nat.le_of_ble_eq_true rfl) ?_
  refine g_al (al2 := [some (.ref (90)), none]) rfl ?_
  refine g_aload_n (q := 1) rfl rfl dX8_undo_0 rfl ?_
  refine g_iconst (q := 2) dX8_undo_1 rfl ?_
  refine g_put (q := 5) fX8_41 (by decide) hA (Nat.le_of_ble_eq_true rfl) (fun _ _ => rfl) (fun _ _ => rfl) dX8_undo_2 rfl ?_
  refine hp_in (fun hh1 ehh1 => ?_)
  have fc2 : hh1 90 = cO 7 [.int (iI (0)), .ref (91), .ref (92), .int (iI (([] : List ASt).length)), .ref (93), .ref (94), .ref (95), .ref (96), .ref (97), .ref (98), .ref (99), .ref (100)] := by rw [ehh1]; exact ueh_s
  refine g_aload_n (q := 6) rfl rfl dX8_undo_5 rfl ?_
  refine g_get (q := 9) fX8_49r (by decide) fc2 rfl dX8_undo_6 rfl ?_
  refine g_if_ne (t := 18) (q := 12) (by decide) dX8_undo_9 rfl rfl (fun c9 => ?_) (fun c9 => ?_)
  · exact absurd rfl c9
  · have hM1 : MRep hh1 0 S [] := hM.thr fc2 (fun j hj => by rw [ehh1, ueh_n hj])
    refine g_aload_n (q := 13) rfl rfl dX8_undo_12 rfl ?_
    refine g_iconst (q := 14) dX8_undo_13 rfl ?_
    refine g_Vw (q := 17) (d' := 0) (i := 90) (av := [.int (iI (1))]) (st := []) kvX8_64 (t_X8_fails l hh1 0 S [] hM1 1) (by decide) fc2 rfl (Nat.le_of_ble_eq_true rfl) ⟨(Nat.le_of_ble_eq_true rfl), (Nat.le_of_ble_eq_true rfl)⟩ ⟨(Nat.le_of_ble_eq_true rfl), (Nat.le_of_ble_eq_true rfl)⟩ rfl rfl dX8_undo_14 rfl (fun v h9 hp => ?_)
    obtain ⟨rfl, p1, p2⟩ := hp
    exact g_ireturn (fun z => NN_f z) (Nat.le_of_ble_eq_true rfl) (Nat.le_of_ble_eq_true rfl) dX8_undo_17 rfl (wP_in ⟨rfl, p1, fun j hj => by rw [p2 j (by omega), ehh1, ueh_n (by omega)]⟩)
