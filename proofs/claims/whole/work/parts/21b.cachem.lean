/-! ===== the reference: drop, changes, add, has ===== -/
set_option maxRecDepth 4000 in
theorem t_X8_drop (l : Launch) (h : EHp) (th sl : Int) (w : Int → Int) (hA : MA h th sl) (hw : h 91 = cI 272 w) (p : Nat) (hp : (p : Int) < w 261) (h8 : w 261 ≤ 8) : CT l mX8_drop 0 0 0 [.ref (90), .int (iI (p))] NN h (vP (fun h' => ∃ w', h' 91 = cI 272 w' ∧ w' 261 = w 261 - 1 ∧ (∀ k : Int, p ≤ k → k < w 261 - 1 → w' (262 + k) = w (262 + k + 1)) ∧ (∀ k : Int, k ≠ 261 → (k < 262 + p ∨ 262 + w 261 - 1 ≤ k) → w' k = w k) ∧ ∀ j, j ≠ 91 → h' j = h j)) := by
  refine CT.of (by decide) (Nat.le_of_ble_eq_true rfl) ?_
  refine g_al (al2 := [some (.ref (90)), some (.int (iI (p))), none]) rfl ?_
  refine g_aload_n (q := 1) rfl rfl dX8_drop_0 rfl ?_
  refine g_get (q := 4) fX8_7r (by decide) hA rfl dX8_drop_1 rfl ?_
  refine g_sipush (q := 7) (by decide) dX8_drop_4 rfl ?_
  refine g_dup2 (q := 8) rfl rfl dX8_drop_7 rfl ?_
  refine g_iaload (q := 9) (by decide) hw (by decide) (by decide) (by decide) dX8_drop_8 rfl ?_
  refine g_iconst (q := 10) dX8_drop_9 rfl ?_
  refine g_isub (q := 11) dX8_drop_10 rfl ?_
  refine g_iastore (q := 12) (by decide) hw (by decide) (by decide) (by decide) dX8_drop_11 rfl ?_
  refine hp_in (fun hh1 ehh1 => ?_)
  have fc2 : hh1 90 = cO 7 [.int (iI (th)), .ref (91), .ref (92), .int (iI (sl)), .ref (93), .ref (94), .ref (95), .ref (96), .ref (97), .ref (98), .ref (99), .ref (100)] := by rw [ehh1, ueh_n (by decide)]; exact hA
  have fc3 : hh1 91 = cI 272 (ui w 261 ((w 261) - 1)) := by rw [ehh1]; exact ueh_s
  refine g_iload_n (q := 13) rfl rfl dX8_drop_12 rfl ?_
  refine g_istore_n (q := 14) (al2 := [some (.ref (90)), some (.int (iI (p))), some (.int (iI (p)))]) rfl (by decide) rfl rfl dX8_drop_13 rfl ?_
  refine loopG (σ := Int × (Int → Int) × EHp) (P := fun zz => match zz with | (k, w2, h2) => G l noX mX8_drop 0 0 0 (vP (fun h' => ∃ w', h' 91 = cI 272 w' ∧ w' 261 = w 261 - 1 ∧ (∀ k : Int, p ≤ k → k < w 261 - 1 → w' (262 + k) = w (262 + k + 1)) ∧ (∀ k : Int, k ≠ 261 → (k < 262 + p ∨ 262 + w 261 - 1 ≤ k) → w' k = w k) ∧ ∀ j, j ≠ 91 → h' j = h j)) 0 0 14 [some (.ref (90)), some (.int (iI (p))), some (.int (iI (k)))] [] NN h2) (I := fun zz => match zz with | (k, w2, h2) => p ≤ k ∧ k ≤ w 261 - 1 ∧ h2 91 = cI 272 w2 ∧ w2 261 = w 261 - 1 ∧ (∀ t : Int, p ≤ t → t < k → w2 (262 + t) = w (262 + t + 1)) ∧ (∀ t : Int, t ≠ 261 → (t < 262 + p ∨ 262 + k ≤ t) → w2 t = w t) ∧ ∀ j, j ≠ 91 → h2 j = h j) (fun zz => match zz with | (k, w2, h2) => (w 261 - 1 - k).toNat) ?_ (p, ui w 261 (w 261 - 1), hh1) ⟨Int.le_refl _, by omega, fc3, by unfold ui; rw [if_pos rfl], fun t a b => by omega, fun t a b => by unfold ui; rw [if_neg a], fun j hj => by rw [ehh1, ueh_n hj]⟩
  rintro ⟨k, w2, h2⟩ hI ih
  obtain ⟨k0, k1, hw2, e1, e2, e3, fr⟩ := hI
  have hA2 : MA h2 th sl := (fr 90 (by decide)).trans hA
  refine g_iload_n (q := 15) rfl rfl dX8_drop_14 rfl ?_
  refine g_aload_n (q := 16) rfl rfl dX8_drop_15 rfl ?_
  refine g_get (q := 19) fX8_7r (by decide) hA2 rfl dX8_drop_16 rfl ?_
  refine g_sipush (q := 22) (by decide) dX8_drop_19 rfl ?_
  refine g_iaload (q := 23) (by decide) hw2 (by decide) (by decide) (by decide) dX8_drop_22 rfl ?_
  refine g_icmp_ge (t := 54) (q := 26) ⟨by omega, by omega⟩ ⟨by omega, by omega⟩ dX8_drop_23 rfl rfl (fun c23 => ?_) (fun c23 => ?_)
  · have ek : k = w 261 - 1 := by omega
    exact g_vreturn (fun z => NN_f z) (Nat.le_of_ble_eq_true rfl) (Nat.le_of_ble_eq_true rfl) dX8_drop_54 rfl (vP_in ⟨w2, hw2, e1, fun t a b => e2 t a (by omega), fun t a b => e3 t a (by omega), fr⟩)
  · refine g_aload_n (q := 27) rfl rfl dX8_drop_26 rfl ?_
    refine g_get (q := 30) fX8_7r (by decide) hA2 rfl dX8_drop_27 rfl ?_
    refine g_sipush (q := 33) (by decide) dX8_drop_30 rfl ?_
    refine g_iload_n (q := 34) rfl rfl dX8_drop_33 rfl ?_
    refine g_iadd (q := 35) dX8_drop_34 rfl ?_
    refine g_aload_n (q := 36) rfl rfl dX8_drop_35 rfl ?_
    refine g_get (q := 39) fX8_7r (by decide) hA2 rfl dX8_drop_36 rfl ?_
    refine g_sipush (q := 42) (by decide) dX8_drop_39 rfl ?_
    refine g_iload_n (q := 43) rfl rfl dX8_drop_42 rfl ?_
    refine g_iadd (q := 44) dX8_drop_43 rfl ?_
    refine g_iconst (q := 45) dX8_drop_44 rfl ?_
    refine g_iadd (q := 46) dX8_drop_45 rfl ?_
    refine g_iaload (q := 47) (by decide) hw2 (by omega) (by omega) (by decide) dX8_drop_46 rfl ?_
    refine g_iastore (q := 48) (by decide) hw2 (by omega) (by omega) (by decide) dX8_drop_47 rfl ?_
    refine hp_in (fun hh4 ehh4 => ?_)
    have fc5 : hh4 90 = cO 7 [.int (iI (th)), .ref (91), .ref (92), .int (iI (sl)), .ref (93), .ref (94), .ref (95), .ref (96), .ref (97), .ref (98), .ref (99), .ref (100)] := by rw [ehh4, ueh_n (by decide)]; exact hA2
    have fc6 : hh4 91 = cI 272 (ui w2 (262 + k) (w2 ((262 + k) + 1))) := by rw [ehh4]; exact ueh_s
    refine g_iinc (q := 51) (al2 := [some (.ref (90)), some (.int (iI (p))), some (.int (iI (k + 1)))]) rfl (by decide) rfl rfl dX8_drop_48 rfl ?_
    refine g_goto (q := 14) dX8_drop_51 rfl ?_
    exact ih (k + 1, ui w2 (262 + k) (w2 ((262 + k) + 1)), hh4) ⟨by omega, by omega, fc6, by unfold ui; rw [if_neg (by omega)]; exact e1, fun t a b => by
        unfold ui
        by_cases e : t = k
        · rw [if_pos (by omega), e]; exact e3 _ (by omega) (by omega)
        · rw [if_neg (by omega)]; exact e2 t a (by omega), fun t a b => by unfold ui; rw [if_neg (by omega)]; exact e3 t a (by omega), fun j hj => by rw [ehh4, ueh_n hj]; exact fr j hj⟩ (by show (w 261 - 1 - (k + 1)).toNat < (w 261 - 1 - k).toNat; omega)
set_option maxRecDepth 4000 in
theorem t_X8_changes (l : Launch) (h : EHp) (th : Int) (S : ASt) (sv : List ASt) (hM : MRep h th S sv) (i : Nat) (hi : i < 4) : CT l mX8_changes 1 0 0 [.ref (90), .int (iI (i))] NN h (vP (fun h' => MRL h' th (chg S i) sv i ∧ ∀ j, j ≠ 91 → j ≠ 95 → h' j = h j)) := by
  obtain ⟨w, pst, bg, mn, lz, hA, ⟨m1, m2, m3, m4, m5⟩, ⟨⟨cs, s1⟩, ⟨ct, s2⟩, ⟨nx, s3⟩, ⟨fd, s4⟩, ⟨od, s5⟩⟩, hW, hP, hY⟩ := id hM
  refine CT.of (by decide) (Nat.le_of_ble_eq_true rfl) ?_
  refine g_al (al2 := [some (.ref (90)), some (.int (iI (i))), none]) rfl ?_
  refine g_aload_n (q := 1) rfl rfl dX8_changes_0 rfl ?_
  refine g_get (q := 4) fX8_22r (by decide) hA rfl dX8_changes_1 rfl ?_
  refine g_iload_n (q := 5) rfl rfl dX8_changes_4 rfl ?_
  refine g_iconst (q := 6) dX8_changes_5 rfl ?_
  refine g_bastore (q := 7) (by decide) (by decide) m5 (by omega) (by omega) (by decide) dX8_changes_6 rfl ?_
  refine hp_in (fun hh1 ehh1 => ?_)
  have fc2 : hh1 90 = cO 7 [.int (iI (th)), .ref (91), .ref (92), .int (iI (sv.length)), .ref (93), .ref (94), .ref (95), .ref (96), .ref (97), .ref (98), .ref (99), .ref (100)] := by rw [ehh1, ueh_n (by decide)]; exact hA
  have fc3 : hh1 91 = cI 272 w := by rw [ehh1, ueh_n (by decide)]; exact m1
  have fc4 : hh1 95 = cZ 4 (ui lz i 0) := by rw [ehh1]; exact ueh_s
  have hM1 : MR hh1 th S sv w pst bg mn (ui lz i 0) := ⟨fc2, ⟨fc3, by rw [ehh1, ueh_n (by decide)]; exact m2, by rw [ehh1, ueh_n (by decide)]; exact m3, by rw [ehh1, ueh_n (by decide)]; exact m4, fc4⟩, ⟨⟨cs, by rw [ehh1, ueh_n (by decide)]; exact s1⟩, ⟨ct, by rw [ehh1, ueh_n (by decide)]; exact s2⟩, ⟨nx, by rw [ehh1, ueh_n (by decide)]; exact s3⟩, ⟨fd, by rw [ehh1, ueh_n (by decide)]; exact s4⟩, ⟨od, by rw [ehh1, ueh_n (by decide)]; exact s5⟩⟩, hW, hP, fun j hj => by
    unfold ui
    by_cases e : (j : Int) = i
    · rw [if_pos e]; exact ⟨Or.inl rfl, fun z => by omega⟩
    · rw [if_neg e]; exact hY j hj⟩
  obtain ⟨wl, w8⟩ := hW.len
  have hz0 : ui lz i 0 (i : Int) = 0 := by unfold ui; rw [if_pos rfl]
  have h10 : ∀ j, j ≠ 91 → j ≠ 95 → hh1 j = h j := fun j a b => by rw [ehh1, ueh_n b]
  refine g_aload_n (q := 8) rfl rfl dX8_changes_7 rfl ?_
  refine g_get (q := 11) fX8_7r (by decide) fc2 rfl dX8_changes_8 rfl ?_
  refine g_sipush (q := 14) (by decide) dX8_changes_11 rfl ?_
  refine g_iaload (q := 15) (by decide) fc3 (by decide) (by decide) (by decide) dX8_changes_14 rfl ?_
  rw [wl]
  refine g_iconst (q := 16) dX8_changes_15 rfl ?_
  refine g_isub (q := 17) dX8_changes_16 rfl ?_
  refine g_istore_n (q := 18) (al2 := [some (.ref (90)), some (.int (iI (i))), some (.int (iI (S.2.2.1.length - 1)))]) rfl (by decide) rfl rfl dX8_changes_17 rfl ?_
  refine loopG (σ := Nat × (Int → Int) × EHp) (P := fun zz => match zz with | (K, w2, h2) => G l noX mX8_changes 1 0 0 (vP (fun h' => MRL h' th (chg S i) sv i ∧ ∀ j, j ≠ 91 → j ≠ 95 → h' j = h j)) 0 0 18 [some (.ref (90)), some (.int (iI (i))), some (.int (iI ((K : Int) - 1)))] [] NN h2) (I := fun zz => match zz with | (K, w2, h2) => K ≤ S.2.2.1.length ∧ MR h2 th (setC S (stg (dbp (100 * i) (100 * i + 100 - 1)) S.2.2.1 K)) sv w2 pst bg mn (ui lz i 0) ∧ ∀ j, j ≠ 91 → j ≠ 95 → h2 j = h j) (fun zz => match zz with | (K, w2, h2) => K) ?_ (S.2.2.1.length, w, hh1) ⟨Nat.le_refl _, by rw [stg_n]; exact hM1, h10⟩
  rintro ⟨K, w2, h2⟩ hI ih
  obtain ⟨hK, hM2, fr⟩ := hI
  obtain ⟨g1, ⟨g2, -, -, -, -⟩, -, g8, -, -⟩ := id hM2
  refine g_iload_n (q := 19) rfl rfl dX8_changes_18 rfl ?_
  refine g_if_lt (t := 50) (q := 22) ⟨by omega, by omega⟩ dX8_changes_19 rfl rfl (fun c19 => ?_) (fun c19 => ?_)
  · have e0 : K = 0 := by omega
    subst e0
    rw [stg_0] at hM2
    exact g_vreturn (fun z => NN_f z) (Nat.le_of_ble_eq_true rfl) (Nat.le_of_ble_eq_true rfl) dX8_changes_50 rfl (vP_in ⟨⟨w2, pst, bg, mn, _, hM2, hz0⟩, fr⟩)
  · obtain ⟨k, rfl⟩ : ∃ k, K = k + 1 := ⟨K - 1, by omega⟩
    obtain ⟨v, hv⟩ : ∃ v, S.2.2.1[k]? = some v := ⟨_, List.getElem?_eq_getElem (show k < S.2.2.1.length by omega)⟩
    have hv2 := stg_at (q := (dbp (100 * i) (100 * i + 100 - 1))) hv
    have ev : w2 (262 + (k : Int)) = v := g8.2.2.2.1 k v hv2
    have vr : 0 ≤ v ∧ v < 400 := hW.2.2.2.2.2.2.2.2.2.2 v (List.mem_of_getElem? hv)
    rw [show (((k + 1 : Nat) : Int)) - 1 = (k : Int) by omega]
    refine g_aload_n (q := 23) rfl rfl dX8_changes_22 rfl ?_
    refine g_get (q := 26) fX8_7r (by decide) g1 rfl dX8_changes_23 rfl ?_
    refine g_sipush (q := 29) (by decide) dX8_changes_26 rfl ?_
    refine g_iload_n (q := 30) rfl rfl dX8_changes_29 rfl ?_
    refine g_iadd (q := 31) dX8_changes_30 rfl ?_
    refine g_iaload (q := 32) (by decide) g2 (by omega) (by omega) (by decide) dX8_changes_31 rfl ?_
    rw [ev]
    refine g_bipush (q := 34) (by decide) dX8_changes_32 rfl ?_
    refine g_idiv (q := 35) (by omega) (by omega) (by omega) (by omega) dX8_changes_34 rfl ?_
    refine g_iload_n (q := 36) rfl rfl dX8_changes_35 rfl ?_
    refine g_icmp_ne (t := 44) (q := 39) ⟨by omega, by omega⟩ ⟨by omega, by omega⟩ dX8_changes_36 rfl rfl (fun c36 => ?_) (fun c36 => ?_)
    · refine g_iinc (q := 47) (al2 := [some (.ref (90)), some (.int (iI (i))), some (.int (iI (((k : Int)) + -1)))]) rfl (by decide) rfl rfl dX8_changes_44 rfl ?_
      refine g_goto (q := 18) dX8_changes_47 rfl ?_
      have hq : (dbp (100 * i) (100 * i + 100 - 1)) v = true := by unfold dbp; simp only [Bool.or_eq_true, decide_eq_true_eq]; omega
      rw [stg_t hv hq] at hM2
      rw [show (k : Int) + -1 = (k : Int) - 1 by omega]
      exact ih (k, w2, h2) ⟨by omega, hM2, fr⟩ (Nat.lt_succ_self k)
    · have hq : ¬ (dbp (100 * i) (100 * i + 100 - 1)) v = true := by unfold dbp; simp only [Bool.or_eq_true, decide_eq_true_eq]; omega
      have kl : k < (stg (dbp (100 * i) (100 * i + 100 - 1)) S.2.2.1 (k + 1)).length := stg_len (by omega)
      obtain ⟨gl, gl8⟩ := g8.len
      have gl2 : w2 261 = ((stg (dbp (100 * i) (100 * i + 100 - 1)) S.2.2.1 (k + 1)).length : Int) := gl
      refine g_aload_n (q := 40) rfl rfl dX8_changes_39 rfl ?_
      refine g_iload_n (q := 41) rfl rfl dX8_changes_40 rfl ?_
      refine g_Vv (q := 44) (d' := 0) (i := 90) (av := [.int (iI ((k : Int)))]) (st := []) kvX8_52 (t_X8_drop l h2 th sv.length w2 g1 g2 k (by omega) (by omega)) (by decide) g1 rfl (Nat.le_of_ble_eq_true rfl) ⟨(Nat.le_of_ble_eq_true rfl), (Nat.le_of_ble_eq_true rfl)⟩ ⟨(Nat.le_of_ble_eq_true rfl), (Nat.le_of_ble_eq_true rfl)⟩ rfl rfl dX8_changes_41 rfl (fun h3 hp => ?_)
      obtain ⟨w3, q1, q2, q3, q4, q5⟩ := hp
      have hM3 : MR h3 th (setC S (stg (dbp (100 * i) (100 * i + 100 - 1)) S.2.2.1 k)) sv w3 pst bg mn (ui lz i 0) := hM2.row q5 q1 (by
        have := WR.drop (p := k) g8 kl q2 q3 q4
        unfold ers setC at this
        simp only [] at this
        rw [stg_f hv hq] at this
        exact this) rfl
      refine g_iinc (q := 47) (al2 := [some (.ref (90)), some (.int (iI (i))), some (.int (iI (((k : Int)) + -1)))]) rfl (by decide) rfl rfl dX8_changes_44 rfl ?_
      refine g_goto (q := 18) dX8_changes_47 rfl ?_
      rw [show (k : Int) + -1 = (k : Int) - 1 by omega]
      exact ih (k, w3, h3) ⟨by omega, hM3, fun j a b => (q5 j a).trans (fr j a b)⟩ (Nat.lt_succ_self k)
set_option maxRecDepth 4000 in
theorem t_X8_add (l : Launch) (h : EHp) (th : Int) (S : ASt) (sv : List ASt) (i : Nat) (hi : i < 4) (c : Int) (g : Int → Int) (hM : MRL h th (setL S i c g) sv i) (hO : LOk (c + 1) g) : CT l mX8_add 0 0 0 [.ref (90), .int (iI (i)), .int (iI (g c))] NN h (vP (fun h' => MRL h' th (setL S i (c + 1) g) sv i ∧ ∀ j, j ≠ 91 → h' j = h j)) := by
  obtain ⟨w, pst, bg, mn, lz, ⟨hA, ⟨m1, -⟩, -, hW, -⟩, -⟩ := id hM
  obtain ⟨wc, wO, wd⟩ := hW.1 i hi
  rw [setL_s] at wc wO wd
  have wc : w i = c := wc
  have c0 : 0 ≤ c := wO.1
  have c6 : c + 1 ≤ 64 := hO.2.1
  refine CT.of (by decide) (Nat.le_of_ble_eq_true rfl) ?_
  refine g_al (al2 := [some (.ref (90)), some (.int (iI (i))), some (.int (iI (g c)))]) rfl ?_
  refine g_aload_n (q := 1) rfl rfl dX8_add_0 rfl ?_
  refine g_get (q := 4) fX8_7r (by decide) hA rfl dX8_add_1 rfl ?_
  refine g_iconst (q := 5) dX8_add_4 rfl ?_
  refine g_bipush (q := 7) (by decide) dX8_add_5 rfl ?_
  refine g_iload_n (q := 8) rfl rfl dX8_add_7 rfl ?_
  refine g_imul (q := 9) dX8_add_8 rfl ?_
  refine g_iadd (q := 10) dX8_add_9 rfl ?_
  refine g_aload_n (q := 11) rfl rfl dX8_add_10 rfl ?_
  refine g_get (q := 14) fX8_7r (by decide) hA rfl dX8_add_11 rfl ?_
  refine g_iload_n (q := 15) rfl rfl dX8_add_14 rfl ?_
  refine g_iaload (q := 16) (by decide) m1 (by omega) (by omega) (by decide) dX8_add_15 rfl ?_
  rw [wc]
  refine g_iadd (q := 17) dX8_add_16 rfl ?_
  refine g_iload_n (q := 18) rfl rfl dX8_add_17 rfl ?_
  refine g_iastore (q := 19) (by decide) m1 (by omega) (by omega) (by decide) dX8_add_18 rfl ?_
  refine hp_in (fun hh1 ehh1 => ?_)
  have fc2 : hh1 90 = cO 7 [.int (iI (th)), .ref (91), .ref (92), .int (iI (sv.length)), .ref (93), .ref (94), .ref (95), .ref (96), .ref (97), .ref (98), .ref (99), .ref (100)] := by rw [ehh1, ueh_n (by decide)]; exact hA
  have fc3 : hh1 91 = cI 272 (ui w ((4 + (64 * i)) + c) (g c)) := by rw [ehh1]; exact ueh_s
  refine g_aload_n (q := 20) rfl rfl dX8_add_19 rfl ?_
  refine g_get (q := 23) fX8_7r (by decide) fc2 rfl dX8_add_20 rfl ?_
  refine g_iload_n (q := 24) rfl rfl dX8_add_23 rfl ?_
  refine g_dup2 (q := 25) rfl rfl dX8_add_24 rfl ?_
  refine g_iaload (q := 26) (by decide) fc3 (by omega) (by omega) (by decide) dX8_add_25 rfl ?_
  refine g_iconst (q := 27) dX8_add_26 rfl ?_
  refine g_iadd (q := 28) dX8_add_27 rfl ?_
  refine g_iastore (q := 29) (by decide) fc3 (by omega) (by omega) (by decide) dX8_add_28 rfl ?_
  refine hp_in (fun hh4 ehh4 => ?_)
  have fc5 : hh4 90 = cO 7 [.int (iI (th)), .ref (91), .ref (92), .int (iI (sv.length)), .ref (93), .ref (94), .ref (95), .ref (96), .ref (97), .ref (98), .ref (99), .ref (100)] := by rw [ehh4, ueh_n (by decide)]; exact fc2
  have fc6 : hh4 91 = cI 272 (ui (ui w ((4 + (64 * i)) + c) (g c)) i (((ui w ((4 + (64 * i)) + c) (g c)) i) + 1)) := by rw [ehh4]; exact ueh_s
  have en : ui w (4 + 64 * (i : Int) + c) (g c) (i : Int) = c := by unfold ui; rw [if_neg (by omega)]; exact wc
  exact g_vreturn (fun z => NN_f z) (Nat.le_of_ble_eq_true rfl) (Nat.le_of_ble_eq_true rfl) dX8_add_29 rfl (vP_in ⟨MRL.set hi hM hO (fun j hj => by rw [ehh4, ueh_n hj, ehh1, ueh_n hj]) fc6 (by unfold ui; rw [if_pos rfl]; exact congrArg (· + 1) en) (fun j j0 j1 => by
      unfold ui
      rw [if_neg (by omega)]
      by_cases e : j = c
      · rw [if_pos (by omega), e]
      · rw [if_neg (by omega)]; exact wd j j0 (by show j < c; omega)) (fun w2 e k k1 k2 => by
      rw [m1] at e
      rw [← cI_inj e]
      unfold ui
      rw [if_neg k1, if_neg (by omega)]), fun j hj => by rw [ehh4, ueh_n hj, ehh1, ueh_n hj]⟩)
set_option maxRecDepth 4000 in
theorem t_X8_isBehind1 (l : Launch) (h : EHp) (i : Nat) (c : Int) (f : Int → Int) (hD : MDoc h i c f) (x : Int) (x0 : 0 ≤ x) (x5 : x ≤ 511) (hx : dA c f (c - 1) < x) : CT l mX8_isBehind 1 0 0 [.ref (90), .int (iI (i)), .int (iI (x))] NN h (rP (.int (iI 1)) h) := by
  obtain ⟨th, sl, w, hA, hw, hi, hc, hO, hd⟩ := id hD
  obtain ⟨o1, o2, o3, o4⟩ := id hO
  refine CT.of (by decide) (Nat.le_of_ble_eq_true rfl) ?_
  refine g_al (al2 := [some (.ref (90)), some (.int (iI (i))), some (.int (iI (x)))]) rfl ?_
  refine g_aload_n (q := 1) rfl rfl dX8_isBehind_0 rfl ?_
  refine g_get (q := 4) fX8_7r (by decide) hA rfl dX8_isBehind_1 rfl ?_
  refine g_iload_n (q := 5) rfl rfl dX8_isBehind_4 rfl ?_
  refine g_iaload (q := 6) (by decide) hw (by omega) (by omega) (by decide) dX8_isBehind_5 rfl ?_
  rw [hc]
  refine g_if_eq (t := 26) (q := 9) ⟨by omega, by omega⟩ dX8_isBehind_6 rfl rfl (fun c6 => ?_) (fun c6 => ?_)
  · refine g_iconst (q := 27) dX8_isBehind_26 rfl ?_
    refine g_goto (q := 31) dX8_isBehind_27 rfl ?_
    exact g_zreturn (fun z => NN_f z) (Nat.le_of_ble_eq_true rfl) (Nat.le_of_ble_eq_true rfl) dX8_isBehind_31 rfl (by decide) rP_in
  · rw [dA_in (by omega) (by omega)] at hx
    have q1 := o3 (c - 1) (by omega) (by omega)
    refine g_aload_n (q := 10) rfl rfl dX8_isBehind_9 rfl ?_
    refine g_iload_n (q := 11) rfl rfl dX8_isBehind_10 rfl ?_
    refine g_aload_n (q := 12) rfl rfl dX8_isBehind_11 rfl ?_
    refine g_get (q := 15) fX8_7r (by decide) hA rfl dX8_isBehind_12 rfl ?_
    refine g_iload_n (q := 16) rfl rfl dX8_isBehind_15 rfl ?_
    refine g_iaload (q := 17) (by decide) hw (by omega) (by omega) (by decide) dX8_isBehind_16 rfl ?_
    rw [hc]
    refine g_iconst (q := 18) dX8_isBehind_17 rfl ?_
    refine g_isub (q := 19) dX8_isBehind_18 rfl ?_
    refine g_Vr (q := 22) (d' := 0) (i := 90) (av := [.int (iI (i)), .int (iI (c - 1))]) (st := []) (v := .int (iI (f (c - 1)))) kvX8_56 (t_X8_doc l h i c f hD (c - 1) (by omega) (by omega)) (by decide) hA rfl (Nat.le_of_ble_eq_true rfl) ⟨(Nat.le_of_ble_eq_true rfl), (Nat.le_of_ble_eq_true rfl)⟩ ⟨(Nat.le_of_ble_eq_true rfl), (Nat.le_of_ble_eq_true rfl)⟩ rfl rfl dX8_isBehind_19 rfl ?_
    refine g_iload_n (q := 23) rfl rfl dX8_isBehind_22 rfl ?_
    refine g_icmp_ge (t := 30) (q := 26) ⟨by omega, by omega⟩ ⟨by omega, by omega⟩ dX8_isBehind_23 rfl rfl (fun c23 => ?_) (fun c23 => ?_)
    · omega
    · refine g_iconst (q := 27) dX8_isBehind_26 rfl ?_
      refine g_goto (q := 31) dX8_isBehind_27 rfl ?_
      exact g_zreturn (fun z => NN_f z) (Nat.le_of_ble_eq_true rfl) (Nat.le_of_ble_eq_true rfl) dX8_isBehind_31 rfl (by decide) rP_in
set_option maxRecDepth 4000 in
theorem t_X8_isBehind0 (l : Launch) (h : EHp) (i : Nat) (c : Int) (f : Int → Int) (hD : MDoc h i c f) (x : Int) (x0 : 0 ≤ x) (x5 : x ≤ 511) (hx : ¬ dA c f (c - 1) < x) : CT l mX8_isBehind 1 0 0 [.ref (90), .int (iI (i)), .int (iI (x))] NN h (rP (.int (iI 0)) h) := by
  obtain ⟨th, sl, w, hA, hw, hi, hc, hO, hd⟩ := id hD
  obtain ⟨o1, o2, o3, o4⟩ := id hO
  refine CT.of (by decide) (Nat.le_of_ble_eq_true rfl) ?_
  refine g_al (al2 := [some (.ref (90)), some (.int (iI (i))), some (.int (iI (x)))]) rfl ?_
  refine g_aload_n (q := 1) rfl rfl dX8_isBehind_0 rfl ?_
  refine g_get (q := 4) fX8_7r (by decide) hA rfl dX8_isBehind_1 rfl ?_
  refine g_iload_n (q := 5) rfl rfl dX8_isBehind_4 rfl ?_
  refine g_iaload (q := 6) (by decide) hw (by omega) (by omega) (by decide) dX8_isBehind_5 rfl ?_
  rw [hc]
  refine g_if_eq (t := 26) (q := 9) ⟨by omega, by omega⟩ dX8_isBehind_6 rfl rfl (fun c6 => ?_) (fun c6 => ?_)
  · exact absurd (by rw [dA_out (by omega)]; omega) hx
  · rw [dA_in (by omega) (by omega)] at hx
    have q1 := o3 (c - 1) (by omega) (by omega)
    refine g_aload_n (q := 10) rfl rfl dX8_isBehind_9 rfl ?_
    refine g_iload_n (q := 11) rfl rfl dX8_isBehind_10 rfl ?_
    refine g_aload_n (q := 12) rfl rfl dX8_isBehind_11 rfl ?_
    refine g_get (q := 15) fX8_7r (by decide) hA rfl dX8_isBehind_12 rfl ?_
    refine g_iload_n (q := 16) rfl rfl dX8_isBehind_15 rfl ?_
    refine g_iaload (q := 17) (by decide) hw (by omega) (by omega) (by decide) dX8_isBehind_16 rfl ?_
    rw [hc]
    refine g_iconst (q := 18) dX8_isBehind_17 rfl ?_
    refine g_isub (q := 19) dX8_isBehind_18 rfl ?_
    refine g_Vr (q := 22) (d' := 0) (i := 90) (av := [.int (iI (i)), .int (iI (c - 1))]) (st := []) (v := .int (iI (f (c - 1)))) kvX8_56 (t_X8_doc l h i c f hD (c - 1) (by omega) (by omega)) (by decide) hA rfl (Nat.le_of_ble_eq_true rfl) ⟨(Nat.le_of_ble_eq_true rfl), (Nat.le_of_ble_eq_true rfl)⟩ ⟨(Nat.le_of_ble_eq_true rfl), (Nat.le_of_ble_eq_true rfl)⟩ rfl rfl dX8_isBehind_19 rfl ?_
    refine g_iload_n (q := 23) rfl rfl dX8_isBehind_22 rfl ?_
    refine g_icmp_ge (t := 30) (q := 26) ⟨by omega, by omega⟩ ⟨by omega, by omega⟩ dX8_isBehind_23 rfl rfl (fun c23 => ?_) (fun c23 => ?_)
    · refine g_iconst (q := 31) dX8_isBehind_30 rfl ?_
      exact g_zreturn (fun z => NN_f z) (Nat.le_of_ble_eq_true rfl) (Nat.le_of_ble_eq_true rfl) dX8_isBehind_31 rfl (by decide) rP_in
    · omega
set_option maxRecDepth 4000 in
theorem t_X8_has (l : Launch) (h : EHp) (i : Nat) (c : Int) (f : Int → Int) (hD : MDoc h i c f) (x : Int) (x0 : 0 ≤ x) (x5 : x ≤ 511) : CT l mX8_has 1 0 0 [.ref (90), .int (iI (i)), .int (iI (x))] NN h (rP (.int (iI (if hs c f x = true then 1 else 0))) h) := by
  obtain ⟨th, sl, w, hA, hw, hi, hc, hO, hd⟩ := id hD
  obtain ⟨o1, o2, o3, o4⟩ := id hO
  refine CT.of (by decide) (Nat.le_of_ble_eq_true rfl) ?_
  refine g_al (al2 := [some (.ref (90)), some (.int (iI (i))), some (.int (iI (x))), none, none]) rfl ?_
  refine g_iconst (q := 1) dX8_has_0 rfl ?_
  refine g_istore_n (q := 2) (al2 := [some (.ref (90)), some (.int (iI (i))), some (.int (iI (x))), some (.int (iI (0))), none]) rfl (by decide) rfl rfl dX8_has_1 rfl ?_
  refine g_iconst (q := 3) dX8_has_2 rfl ?_
  refine g_istore (q := 5) (al2 := [some (.ref (90)), some (.int (iI (i))), some (.int (iI (x))), some (.int (iI (0))), some (.int (iI (0)))]) (by decide) rfl rfl dX8_has_3 rfl ?_
  refine loopG (σ := Nat) (P := fun k => G l noX mX8_has 1 0 0 (rP (.int (iI (if hs c f x = true then 1 else 0))) h) 0 0 5 [some (.ref (90)), some (.int (iI (i))), some (.int (iI (x))), some (.int (iI (if hsF f x k = true then (1 : Int) else 0))), some (.int (iI (k)))] [] NN h) (I := fun k => (k : Int) ≤ c) (fun k => c.toNat - k) ?_ 0 o1
  intro k hI ih
  have i01 : (if hsF f x k = true then (1 : Int) else 0) = 0 ∨ (if hsF f x k = true then (1 : Int) else 0) = 1 := by by_cases z : hsF f x k = true <;> simp [z]
  refine g_iload (q := 7) rfl dX8_has_5 rfl ?_
  refine g_aload_n (q := 8) rfl rfl dX8_has_7 rfl ?_
  refine g_get (q := 11) fX8_7r (by decide) hA rfl dX8_has_8 rfl ?_
  refine g_iload_n (q := 12) rfl rfl dX8_has_11 rfl ?_
  refine g_iaload (q := 13) (by decide) hw (by omega) (by omega) (by decide) dX8_has_12 rfl ?_
  rw [hc]
  refine g_icmp_ge (t := 43) (q := 16) ⟨by omega, by omega⟩ ⟨by omega, by omega⟩ dX8_has_13 rfl rfl (fun c13 => ?_) (fun c13 => ?_)
  · have ek : k = c.toNat := by omega
    have ee : hsF f x k = hs c f x := by unfold hs; rw [ek]
    rw [ee] at i01 ⊢
    refine g_iload_n (q := 44) rfl rfl dX8_has_43 rfl ?_
    exact g_zreturn (fun z => NN_f z) (Nat.le_of_ble_eq_true rfl) (Nat.le_of_ble_eq_true rfl) dX8_has_44 rfl i01 rP_in
  · have kq := o3 k (by omega) (by omega)
    refine g_iload_n (q := 17) rfl rfl dX8_has_16 rfl ?_
    refine g_if_ne (t := 31) (q := 20) ⟨by omega, by omega⟩ dX8_has_17 rfl rfl (fun c17 => ?_) (fun c17 => ?_)
    · have hk1 : hsF f x k = true := by
        by_cases z : hsF f x k = true
        · exact z
        · rw [if_neg z] at c17; omega
      refine g_iconst (q := 32) dX8_has_31 rfl ?_
      refine g_goto (q := 36) dX8_has_32 rfl ?_
      refine g_istore_n (q := 37) (al2 := [some (.ref (90)), some (.int (iI (i))), some (.int (iI (x))), some (.int (iI (1))), some (.int (iI (k)))]) rfl (by decide) rfl rfl dX8_has_36 rfl ?_
      refine g_iinc (q := 40) (al2 := [some (.ref (90)), some (.int (iI (i))), some (.int (iI (x))), some (.int (iI (1))), some (.int (iI (k + 1)))]) rfl (by decide) rfl rfl dX8_has_37 rfl ?_
      refine g_goto (q := 5) dX8_has_40 rfl ?_
      have hv : hsF f x (k + 1) = true := by show (hsF f x k || decide (f k = x)) = true; rw [hk1]; rfl
      have gg := ih (k + 1) (show ((k + 1 : Nat) : Int) ≤ c by omega) (show c.toNat - (k + 1) < c.toNat - k by omega)
      rw [hv] at gg
      exact gg
    · have hk0 : ¬ hsF f x k = true := fun z => by rw [if_pos z] at c17; omega
      refine g_aload_n (q := 21) rfl rfl dX8_has_20 rfl ?_
      refine g_iload_n (q := 22) rfl rfl dX8_has_21 rfl ?_
      refine g_iload (q := 24) rfl dX8_has_22 rfl ?_
      refine g_Vr (q := 27) (d' := 0) (i := 90) (av := [.int (iI (i)), .int (iI (k))]) (st := []) (v := .int (iI (f k))) kvX8_56 (t_X8_doc l h i c f hD k (by omega) (by omega)) (by decide) hA rfl (Nat.le_of_ble_eq_true rfl) ⟨(Nat.le_of_ble_eq_true rfl), (Nat.le_of_ble_eq_true rfl)⟩ ⟨(Nat.le_of_ble_eq_true rfl), (Nat.le_of_ble_eq_true rfl)⟩ rfl rfl dX8_has_24 rfl ?_
      refine g_iload_n (q := 28) rfl rfl dX8_has_27 rfl ?_
      refine g_icmp_ne (t := 35) (q := 31) ⟨by omega, by omega⟩ ⟨by omega, by omega⟩ dX8_has_28 rfl rfl (fun c28 => ?_) (fun c28 => ?_)
      · refine g_iconst (q := 36) dX8_has_35 rfl ?_
        refine g_istore_n (q := 37) (al2 := [some (.ref (90)), some (.int (iI (i))), some (.int (iI (x))), some (.int (iI (0))), some (.int (iI (k)))]) rfl (by decide) rfl rfl dX8_has_36 rfl ?_
        refine g_iinc (q := 40) (al2 := [some (.ref (90)), some (.int (iI (i))), some (.int (iI (x))), some (.int (iI (0))), some (.int (iI (k + 1)))]) rfl (by decide) rfl rfl dX8_has_37 rfl ?_
        refine g_goto (q := 5) dX8_has_40 rfl ?_
        have hv : hsF f x (k + 1) = false := by show (hsF f x k || decide (f k = x)) = false; rw [Bool.not_eq_true] at hk0; rw [hk0, decide_eq_false c28]; rfl
        have gg := ih (k + 1) (show ((k + 1 : Nat) : Int) ≤ c by omega) (show c.toNat - (k + 1) < c.toNat - k by omega)
        rw [hv] at gg
        exact gg
      · refine g_iconst (q := 32) dX8_has_31 rfl ?_
        refine g_goto (q := 36) dX8_has_32 rfl ?_
        refine g_istore_n (q := 37) (al2 := [some (.ref (90)), some (.int (iI (i))), some (.int (iI (x))), some (.int (iI (1))), some (.int (iI (k)))]) rfl (by decide) rfl rfl dX8_has_36 rfl ?_
        refine g_iinc (q := 40) (al2 := [some (.ref (90)), some (.int (iI (i))), some (.int (iI (x))), some (.int (iI (1))), some (.int (iI (k + 1)))]) rfl (by decide) rfl rfl dX8_has_37 rfl ?_
        refine g_goto (q := 5) dX8_has_40 rfl ?_
        have hv : hsF f x (k + 1) = true := by show (hsF f x k || decide (f k = x)) = true; rw [decide_eq_true c28, Bool.or_true]
        have gg := ih (k + 1) (show ((k + 1 : Nat) : Int) ≤ c by omega) (show c.toNat - (k + 1) < c.toNat - k by omega)
        rw [hv] at gg
        exact gg
