/-! ===== History ===== -/
set_option maxRecDepth 4000 in
theorem t_X2_save (l : Launch) (h : EHp) (g nx t : Nat) (sv : List ASt) (S : ASt) (hHA : HA h g nx sv) (hSA : SA h t S) (hgt : t + 15 < g ∨ g + 65 < t) : CT l mX2_save 3 0 0 [.ref (g), .ref (t)] NN h (vP (fun h' => HA h' g (nxU nx) ((S :: sv).take 4) ∧ FrH h h' g)) := by
  obtain ⟨T, hG, hR, hn, hc, hT, hV, hg⟩ := hHA
  have er := sref_at (g := g) hn
  have hTn := hT nx hn
  refine CT.of (by decide) (Nat.le_of_ble_eq_true rfl) ?_
  refine g_al (al2 := [some (.ref (g)), some (.ref (t))]) rfl ?_
  refine g_aload_n (q := 1) rfl rfl dX2_save_0 rfl ?_
  refine g_get (q := 4) fX2_11r (by show _ < 103; omega) hG rfl dX2_save_1 rfl ?_
  refine g_aload_n (q := 5) rfl rfl dX2_save_4 rfl ?_
  refine g_get (q := 8) fX2_17r (by show _ < 103; omega) hG rfl dX2_save_5 rfl ?_
  refine g_aaload (q := 9) (by show _ < 103; omega) hR (Or.inr rfl) (by omega) (by omega) (by decide) er dX2_save_8 rfl ?_
  refine g_aload_n (q := 10) rfl rfl dX2_save_9 rfl ?_
  refine g_Vv (q := 13) (d' := 2) (i := g + 2 + 16 * nx) (av := [.ref (t)]) (st := []) kvX2_25 (t_X6_copyFrom l h (g + 2 + 16 * nx) t (T nx) S hTn hSA (by omega)) (by show _ < 103; omega) hTn.1 rfl (Nat.le_of_ble_eq_true rfl) ⟨(Nat.le_of_ble_eq_true rfl), (Nat.le_of_ble_eq_true rfl)⟩ ⟨(Nat.le_of_ble_eq_true rfl), (Nat.le_of_ble_eq_true rfl)⟩ rfl rfl dX2_save_10 rfl (fun h1 hp => ?_)
  obtain ⟨hS1, fr1⟩ := hp
  have hG1 : h1 g = _ := (fr1 g (by omega)).trans hG
  have hR1 : h1 (g + 1) = _ := (fr1 (g + 1) (by omega)).trans hR
  refine g_aload_n (q := 14) rfl rfl dX2_save_13 rfl ?_
  refine g_aload_n (q := 15) rfl rfl dX2_save_14 rfl ?_
  refine g_get (q := 18) fX2_17r (by show _ < 103; omega) hG1 rfl dX2_save_15 rfl ?_
  refine g_iconst (q := 19) dX2_save_18 rfl ?_
  refine g_iadd (q := 20) dX2_save_19 rfl ?_
  refine g_iconst (q := 21) dX2_save_20 rfl ?_
  refine g_icmp_ge (t := 33) (q := 24) ⟨by omega, by omega⟩ ⟨by omega, by omega⟩ dX2_save_21 rfl rfl (fun c21 => ?_) (fun c21 => ?_)
  · refine g_iconst (q := 34) dX2_save_33 rfl ?_
    refine g_put (q := 37) fX2_17 (by show _ < 103; omega) hG1 (Nat.le_of_ble_eq_true rfl) (fun _ _ => rfl) (fun _ _ => rfl) dX2_save_34 rfl ?_
    refine hp_in (fun hh1 ehh1 => ?_)
    have fc2 : hh1 g = cO 2 [.ref (g + 1), .int (iI (0)), .int (iI (sv.length))] := by rw [ehh1]; exact ueh_s
    have fc3 : hh1 (g + 1) = cR 5 4 (sref g) := by rw [ehh1, ueh_n (by omega)]; exact hR1
    refine g_aload_n (q := 38) rfl rfl dX2_save_37 rfl ?_
    refine g_aload_n (q := 39) rfl rfl dX2_save_38 rfl ?_
    refine g_get (q := 42) fX2_21r (by show _ < 103; omega) fc2 rfl dX2_save_39 rfl ?_
    refine g_iconst (q := 43) dX2_save_42 rfl ?_
    refine g_icmp_ge (t := 55) (q := 46) ⟨by omega, by omega⟩ ⟨by omega, by omega⟩ dX2_save_43 rfl rfl (fun c43 => ?_) (fun c43 => ?_)
    · refine g_iconst (q := 56) dX2_save_55 rfl ?_
      refine g_put (q := 59) fX2_21 (by show _ < 103; omega) fc2 (Nat.le_of_ble_eq_true rfl) (fun _ _ => rfl) (fun _ _ => rfl) dX2_save_56 rfl ?_
      refine hp_in (fun hh4 ehh4 => ?_)
      have fc5 : hh4 g = cO 2 [.ref (g + 1), .int (iI (0)), .int (iI (4))] := by rw [ehh4]; exact ueh_s
      have fc6 : hh4 (g + 1) = cR 5 4 (sref g) := by rw [ehh4, ueh_n (by omega)]; exact fc3
      have en : nxU nx = 0 := by unfold nxU; rw [if_neg (by omega)]
      have el : ((S :: sv).take 4).length = 4 := by rw [List.length_take, List.length_cons]; omega
      exact g_vreturn (fun z => NN_f z) (Nat.le_of_ble_eq_true rfl) (Nat.le_of_ble_eq_true rfl) dX2_save_59 rfl (vP_in ⟨⟨uT T nx S, by rw [en, el]; exact fc5, fc6, by rw [en]; omega, by rw [el]; omega, fun i hi => by
            by_cases e : i = nx
            · subst e; rw [uT_s rfl]; exact hS1.moved (fun j a b => by rw [ehh4, ueh_n (by omega), ehh1, ueh_n (by omega)])
            · rw [uT_n e]; exact (hT i hi).moved (fun j a b => by rw [ehh4, ueh_n (by omega), ehh1, ueh_n (by omega)]; exact fr1 j (by omega)), fun j v z => by
            rcases take4 z with ⟨rfl, rfl⟩ | ⟨i, rfl, hi, z⟩
            · exact uT_s (by rw [en]; omega)
            · rw [uT_n (by rw [en]; omega), ← hV i v z]; congr 1; rw [en]; omega, hg⟩, fun j hj => by rw [ehh4, ueh_n (by omega), ehh1, ueh_n (by omega)]; exact fr1 j (by omega)⟩)
    · refine g_aload_n (q := 47) rfl rfl dX2_save_46 rfl ?_
      refine g_get (q := 50) fX2_21r (by show _ < 103; omega) fc2 rfl dX2_save_47 rfl ?_
      refine g_iconst (q := 51) dX2_save_50 rfl ?_
      refine g_iadd (q := 52) dX2_save_51 rfl ?_
      refine g_goto (q := 56) dX2_save_52 rfl ?_
      refine g_put (q := 59) fX2_21 (by show _ < 103; omega) fc2 (Nat.le_of_ble_eq_true rfl) (fun _ _ => rfl) (fun _ _ => rfl) dX2_save_56 rfl ?_
      refine hp_in (fun hh7 ehh7 => ?_)
      have fc8 : hh7 g = cO 2 [.ref (g + 1), .int (iI (0)), .int (iI (sv.length + 1))] := by rw [ehh7]; exact ueh_s
      have fc9 : hh7 (g + 1) = cR 5 4 (sref g) := by rw [ehh7, ueh_n (by omega)]; exact fc3
      have en : nxU nx = 0 := by unfold nxU; rw [if_neg (by omega)]
      have el : ((S :: sv).take 4).length = sv.length + 1 := by rw [List.length_take, List.length_cons]; omega
      exact g_vreturn (fun z => NN_f z) (Nat.le_of_ble_eq_true rfl) (Nat.le_of_ble_eq_true rfl) dX2_save_59 rfl (vP_in ⟨⟨uT T nx S, by rw [en, el]; exact fc8, fc9, by rw [en]; omega, by rw [el]; omega, fun i hi => by
            by_cases e : i = nx
            · subst e; rw [uT_s rfl]; exact hS1.moved (fun j a b => by rw [ehh7, ueh_n (by omega), ehh1, ueh_n (by omega)])
            · rw [uT_n e]; exact (hT i hi).moved (fun j a b => by rw [ehh7, ueh_n (by omega), ehh1, ueh_n (by omega)]; exact fr1 j (by omega)), fun j v z => by
            rcases take4 z with ⟨rfl, rfl⟩ | ⟨i, rfl, hi, z⟩
            · exact uT_s (by rw [en]; omega)
            · rw [uT_n (by rw [en]; omega), ← hV i v z]; congr 1; rw [en]; omega, hg⟩, fun j hj => by rw [ehh7, ueh_n (by omega), ehh1, ueh_n (by omega)]; exact fr1 j (by omega)⟩)
  · refine g_aload_n (q := 25) rfl rfl dX2_save_24 rfl ?_
    refine g_get (q := 28) fX2_17r (by show _ < 103; omega) hG1 rfl dX2_save_25 rfl ?_
    refine g_iconst (q := 29) dX2_save_28 rfl ?_
    refine g_iadd (q := 30) dX2_save_29 rfl ?_
    refine g_goto (q := 34) dX2_save_30 rfl ?_
    refine g_put (q := 37) fX2_17 (by show _ < 103; omega) hG1 (Nat.le_of_ble_eq_true rfl) (fun _ _ => rfl) (fun _ _ => rfl) dX2_save_34 rfl ?_
    refine hp_in (fun hh10 ehh10 => ?_)
    have fc11 : hh10 g = cO 2 [.ref (g + 1), .int (iI (nx + 1)), .int (iI (sv.length))] := by rw [ehh10]; exact ueh_s
    have fc12 : hh10 (g + 1) = cR 5 4 (sref g) := by rw [ehh10, ueh_n (by omega)]; exact hR1
    refine g_aload_n (q := 38) rfl rfl dX2_save_37 rfl ?_
    refine g_aload_n (q := 39) rfl rfl dX2_save_38 rfl ?_
    refine g_get (q := 42) fX2_21r (by show _ < 103; omega) fc11 rfl dX2_save_39 rfl ?_
    refine g_iconst (q := 43) dX2_save_42 rfl ?_
    refine g_icmp_ge (t := 55) (q := 46) ⟨by omega, by omega⟩ ⟨by omega, by omega⟩ dX2_save_43 rfl rfl (fun c43 => ?_) (fun c43 => ?_)
    · refine g_iconst (q := 56) dX2_save_55 rfl ?_
      refine g_put (q := 59) fX2_21 (by show _ < 103; omega) fc11 (Nat.le_of_ble_eq_true rfl) (fun _ _ => rfl) (fun _ _ => rfl) dX2_save_56 rfl ?_
      refine hp_in (fun hh13 ehh13 => ?_)
      have fc14 : hh13 g = cO 2 [.ref (g + 1), .int (iI (nx + 1)), .int (iI (4))] := by rw [ehh13]; exact ueh_s
      have fc15 : hh13 (g + 1) = cR 5 4 (sref g) := by rw [ehh13, ueh_n (by omega)]; exact fc12
      have en : nxU nx = nx + 1 := by unfold nxU; rw [if_pos (by omega)]
      have el : ((S :: sv).take 4).length = 4 := by rw [List.length_take, List.length_cons]; omega
      exact g_vreturn (fun z => NN_f z) (Nat.le_of_ble_eq_true rfl) (Nat.le_of_ble_eq_true rfl) dX2_save_59 rfl (vP_in ⟨⟨uT T nx S, by rw [en, el]; exact fc14, fc15, by rw [en]; omega, by rw [el]; omega, fun i hi => by
            by_cases e : i = nx
            · subst e; rw [uT_s rfl]; exact hS1.moved (fun j a b => by rw [ehh13, ueh_n (by omega), ehh10, ueh_n (by omega)])
            · rw [uT_n e]; exact (hT i hi).moved (fun j a b => by rw [ehh13, ueh_n (by omega), ehh10, ueh_n (by omega)]; exact fr1 j (by omega)), fun j v z => by
            rcases take4 z with ⟨rfl, rfl⟩ | ⟨i, rfl, hi, z⟩
            · exact uT_s (by rw [en]; omega)
            · rw [uT_n (by rw [en]; omega), ← hV i v z]; congr 1; rw [en]; omega, hg⟩, fun j hj => by rw [ehh13, ueh_n (by omega), ehh10, ueh_n (by omega)]; exact fr1 j (by omega)⟩)
    · refine g_aload_n (q := 47) rfl rfl dX2_save_46 rfl ?_
      refine g_get (q := 50) fX2_21r (by show _ < 103; omega) fc11 rfl dX2_save_47 rfl ?_
      refine g_iconst (q := 51) dX2_save_50 rfl ?_
      refine g_iadd (q := 52) dX2_save_51 rfl ?_
      refine g_goto (q := 56) dX2_save_52 rfl ?_
      refine g_put (q := 59) fX2_21 (by show _ < 103; omega) fc11 (Nat.le_of_ble_eq_true rfl) (fun _ _ => rfl) (fun _ _ => rfl) dX2_save_56 rfl ?_
      refine hp_in (fun hh16 ehh16 => ?_)
      have fc17 : hh16 g = cO 2 [.ref (g + 1), .int (iI (nx + 1)), .int (iI (sv.length + 1))] := by rw [ehh16]; exact ueh_s
      have fc18 : hh16 (g + 1) = cR 5 4 (sref g) := by rw [ehh16, ueh_n (by omega)]; exact fc12
      have en : nxU nx = nx + 1 := by unfold nxU; rw [if_pos (by omega)]
      have el : ((S :: sv).take 4).length = sv.length + 1 := by rw [List.length_take, List.length_cons]; omega
      exact g_vreturn (fun z => NN_f z) (Nat.le_of_ble_eq_true rfl) (Nat.le_of_ble_eq_true rfl) dX2_save_59 rfl (vP_in ⟨⟨uT T nx S, by rw [en, el]; exact fc17, fc18, by rw [en]; omega, by rw [el]; omega, fun i hi => by
            by_cases e : i = nx
            · subst e; rw [uT_s rfl]; exact hS1.moved (fun j a b => by rw [ehh16, ueh_n (by omega), ehh10, ueh_n (by omega)])
            · rw [uT_n e]; exact (hT i hi).moved (fun j a b => by rw [ehh16, ueh_n (by omega), ehh10, ueh_n (by omega)]; exact fr1 j (by omega)), fun j v z => by
            rcases take4 z with ⟨rfl, rfl⟩ | ⟨i, rfl, hi, z⟩
            · exact uT_s (by rw [en]; omega)
            · rw [uT_n (by rw [en]; omega), ← hV i v z]; congr 1; rw [en]; omega, hg⟩, fun j hj => by rw [ehh16, ueh_n (by omega), ehh10, ueh_n (by omega)]; exact fr1 j (by omega)⟩)
set_option maxRecDepth 4000 in
theorem t_X2_restore (l : Launch) (h : EHp) (g nx t : Nat) (sv : List ASt) (S R : ASt) (hHA : HA h g nx (R :: sv)) (hSA : SA h t S) (hgt : t + 15 < g ∨ g + 65 < t) : CT l mX2_restore 3 0 0 [.ref (g), .ref (t)] NN h (vP (fun h' => SA h' t R ∧ HA h' g (nxD nx) sv ∧ ∀ j, (j < g ∨ g + 65 < j) → (j < t ∨ t + 15 < j) → h' j = h j)) := by
  obtain ⟨T, hG, hR, hn, hc, hT, hV, hg⟩ := hHA
  have hR0 := hV 0 R rfl
  have ht := hSA.2.2.1
  refine CT.of (by decide) (Nat.le_of_ble_eq_true rfl) ?_
  refine g_al (al2 := [some (.ref (g)), some (.ref (t))]) rfl ?_
  refine g_aload_n (q := 1) rfl rfl dX2_restore_0 rfl ?_
  refine g_aload_n (q := 2) rfl rfl dX2_restore_1 rfl ?_
  refine g_get (q := 5) fX2_17r (by show _ < 103; omega) hG rfl dX2_restore_2 rfl ?_
  refine g_if_le (t := 17) (q := 8) ⟨by omega, by omega⟩ dX2_restore_5 rfl rfl (fun c5 => ?_) (fun c5 => ?_)
  · refine g_iconst (q := 18) dX2_restore_17 rfl ?_
    refine g_put (q := 21) fX2_17 (by show _ < 103; omega) hG (Nat.le_of_ble_eq_true rfl) (fun _ _ => rfl) (fun _ _ => rfl) dX2_restore_18 rfl ?_
    refine hp_in (fun hh1 ehh1 => ?_)
    have fc2 : hh1 g = cO 2 [.ref (g + 1), .int (iI (3)), .int (iI ((R :: sv).length))] := by rw [ehh1]; exact ueh_s
    have fc3 : hh1 (g + 1) = cR 5 4 (sref g) := by rw [ehh1, ueh_n (by omega)]; exact hR
    refine g_aload_n (q := 22) rfl rfl dX2_restore_21 rfl ?_
    refine g_aload_n (q := 23) rfl rfl dX2_restore_22 rfl ?_
    refine g_get (q := 26) fX2_11r (by show _ < 103; omega) fc2 rfl dX2_restore_23 rfl ?_
    refine g_aload_n (q := 27) rfl rfl dX2_restore_26 rfl ?_
    refine g_get (q := 30) fX2_17r (by show _ < 103; omega) fc2 rfl dX2_restore_27 rfl ?_
    have en : nxD nx = 3 := by unfold nxD; rw [if_neg (by omega)]
    have eT : T (3) = R := by rw [← hR0]; congr 1; omega
    have er := sref_at (g := g) (i := 3) (by omega)
    have hSx : ∀ i : Nat, i < 4 → SA hh1 (g + 2 + 16 * i) (T i) := fun i hi => (hT i hi).moved (fun j a b => by rw [ehh1, ueh_n (by omega)])
    have hTn := hSx (3) (by omega)
    have hSt : SA hh1 t S := hSA.moved (fun j a b => by rw [ehh1, ueh_n (by omega)])
    refine g_aaload (q := 31) (by show _ < 103; omega) fc3 (Or.inr rfl) (by omega) (by omega) (by decide) er dX2_restore_30 rfl ?_
    refine g_Vv (q := 34) (d' := 2) (i := t) (av := [.ref (g + 2 + 16 * 3)]) (st := []) kvX2_25 (t_X6_copyFrom l hh1 t (g + 2 + 16 * 3) S (T (3)) hSt hTn (by omega)) (by show _ < 103; omega) hSt.1 rfl (Nat.le_of_ble_eq_true rfl) ⟨(Nat.le_of_ble_eq_true rfl), (Nat.le_of_ble_eq_true rfl)⟩ ⟨(Nat.le_of_ble_eq_true rfl), (Nat.le_of_ble_eq_true rfl)⟩ rfl rfl dX2_restore_31 rfl (fun h1 hp => ?_)
    obtain ⟨hS1, fr1⟩ := hp
    have hG1 : h1 g = _ := (fr1 g (by omega)).trans fc2
    have hR1 : h1 (g + 1) = _ := (fr1 (g + 1) (by omega)).trans fc3
    refine g_aload_n (q := 35) rfl rfl dX2_restore_34 rfl ?_
    refine g_dup (q := 36) rfl dX2_restore_35 rfl ?_
    refine g_get (q := 39) fX2_21r (by show _ < 103; omega) hG1 rfl dX2_restore_36 rfl ?_
    refine g_iconst (q := 40) dX2_restore_39 rfl ?_
    refine g_isub (q := 41) dX2_restore_40 rfl ?_
    refine g_put (q := 44) fX2_21 (by show _ < 103; omega) hG1 (Nat.le_of_ble_eq_true rfl) (fun _ _ => rfl) (fun _ _ => rfl) dX2_restore_41 rfl ?_
    refine hp_in (fun hh4 ehh4 => ?_)
    have fc5 : hh4 g = cO 2 [.ref (g + 1), .int (iI (3)), .int (iI (((R :: sv).length) - 1))] := by rw [ehh4]; exact ueh_s
    have fc6 : hh4 (g + 1) = cR 5 4 (sref g) := by rw [ehh4, ueh_n (by omega)]; exact hR1
    exact g_vreturn (fun z => NN_f z) (Nat.le_of_ble_eq_true rfl) (Nat.le_of_ble_eq_true rfl) dX2_restore_44 rfl (vP_in ⟨by rw [← eT]; exact hS1.moved (fun j a b => by rw [ehh4, ueh_n (by omega)]), ⟨T, by rw [en]; rw [show (sv.length : Int) = ((R :: sv).length : Int) - 1 by rw [List.length_cons]; omega]; exact fc5, fc6, by rw [en]; omega, by rw [List.length_cons] at hc; omega, fun i hi => (hSx i hi).moved (fun j a b => by rw [ehh4, ueh_n (by omega)]; exact fr1 j (by omega)), fun j v z => by
          have := hV (j + 1) v (by simpa using z)
          have hj : j < 3 := by
            have := (List.getElem?_eq_some_iff.mp z).1
            rw [List.length_cons] at hc
            omega
          rw [← this]; congr 1; rw [en]; omega, hg⟩, fun j j1 j2 => by rw [ehh4, ueh_n (by omega)]; rw [fr1 j j2, ehh1, ueh_n (by omega)]⟩)
  · refine g_aload_n (q := 9) rfl rfl dX2_restore_8 rfl ?_
    refine g_get (q := 12) fX2_17r (by show _ < 103; omega) hG rfl dX2_restore_9 rfl ?_
    refine g_iconst (q := 13) dX2_restore_12 rfl ?_
    refine g_isub (q := 14) dX2_restore_13 rfl ?_
    refine g_goto (q := 18) dX2_restore_14 rfl ?_
    refine g_put (q := 21) fX2_17 (by show _ < 103; omega) hG (Nat.le_of_ble_eq_true rfl) (fun _ _ => rfl) (fun _ _ => rfl) dX2_restore_18 rfl ?_
    refine hp_in (fun hh7 ehh7 => ?_)
    have fc8 : hh7 g = cO 2 [.ref (g + 1), .int (iI (nx - 1)), .int (iI ((R :: sv).length))] := by rw [ehh7]; exact ueh_s
    have fc9 : hh7 (g + 1) = cR 5 4 (sref g) := by rw [ehh7, ueh_n (by omega)]; exact hR
    refine g_aload_n (q := 22) rfl rfl dX2_restore_21 rfl ?_
    refine g_aload_n (q := 23) rfl rfl dX2_restore_22 rfl ?_
    refine g_get (q := 26) fX2_11r (by show _ < 103; omega) fc8 rfl dX2_restore_23 rfl ?_
    refine g_aload_n (q := 27) rfl rfl dX2_restore_26 rfl ?_
    refine g_get (q := 30) fX2_17r (by show _ < 103; omega) fc8 rfl dX2_restore_27 rfl ?_
    have en : nxD nx = nx - 1 := by unfold nxD; rw [if_pos (by omega)]
    have eT : T (nx - 1) = R := by rw [← hR0]; congr 1; omega
    have er := sref_at (g := g) (i := nx - 1) (by omega)
    have hSx : ∀ i : Nat, i < 4 → SA hh7 (g + 2 + 16 * i) (T i) := fun i hi => (hT i hi).moved (fun j a b => by rw [ehh7, ueh_n (by omega)])
    have hTn := hSx (nx - 1) (by omega)
    have hSt : SA hh7 t S := hSA.moved (fun j a b => by rw [ehh7, ueh_n (by omega)])
    rw [show (nx : Int) - 1 = ((nx - 1 : Nat) : Int) by omega]
    refine g_aaload (q := 31) (by show _ < 103; omega) fc9 (Or.inr rfl) (by omega) (by omega) (by decide) er dX2_restore_30 rfl ?_
    refine g_Vv (q := 34) (d' := 2) (i := t) (av := [.ref (g + 2 + 16 * (nx - 1))]) (st := []) kvX2_25 (t_X6_copyFrom l hh7 t (g + 2 + 16 * (nx - 1)) S (T (nx - 1)) hSt hTn (by omega)) (by show _ < 103; omega) hSt.1 rfl (Nat.le_of_ble_eq_true rfl) ⟨(Nat.le_of_ble_eq_true rfl), (Nat.le_of_ble_eq_true rfl)⟩ ⟨(Nat.le_of_ble_eq_true rfl), (Nat.le_of_ble_eq_true rfl)⟩ rfl rfl dX2_restore_31 rfl (fun h1 hp => ?_)
    obtain ⟨hS1, fr1⟩ := hp
    have hG1 : h1 g = _ := (fr1 g (by omega)).trans fc8
    have hR1 : h1 (g + 1) = _ := (fr1 (g + 1) (by omega)).trans fc9
    refine g_aload_n (q := 35) rfl rfl dX2_restore_34 rfl ?_
    refine g_dup (q := 36) rfl dX2_restore_35 rfl ?_
    refine g_get (q := 39) fX2_21r (by show _ < 103; omega) hG1 rfl dX2_restore_36 rfl ?_
    refine g_iconst (q := 40) dX2_restore_39 rfl ?_
    refine g_isub (q := 41) dX2_restore_40 rfl ?_
    refine g_put (q := 44) fX2_21 (by show _ < 103; omega) hG1 (Nat.le_of_ble_eq_true rfl) (fun _ _ => rfl) (fun _ _ => rfl) dX2_restore_41 rfl ?_
    refine hp_in (fun hh10 ehh10 => ?_)
    have fc11 : hh10 g = cO 2 [.ref (g + 1), .int (iI ((nx : Int) - 1)), .int (iI (((R :: sv).length) - 1))] := by rw [ehh10]; exact ueh_s
    have fc12 : hh10 (g + 1) = cR 5 4 (sref g) := by rw [ehh10, ueh_n (by omega)]; exact hR1
    exact g_vreturn (fun z => NN_f z) (Nat.le_of_ble_eq_true rfl) (Nat.le_of_ble_eq_true rfl) dX2_restore_44 rfl (vP_in ⟨by rw [← eT]; exact hS1.moved (fun j a b => by rw [ehh10, ueh_n (by omega)]), ⟨T, by rw [en]; rw [show ((nx - 1 : Nat) : Int) = (nx : Int) - 1 by omega]; rw [show (sv.length : Int) = ((R :: sv).length : Int) - 1 by rw [List.length_cons]; omega]; exact fc11, fc12, by rw [en]; omega, by rw [List.length_cons] at hc; omega, fun i hi => (hSx i hi).moved (fun j a b => by rw [ehh10, ueh_n (by omega)]; exact fr1 j (by omega)), fun j v z => by
          have := hV (j + 1) v (by simpa using z)
          have hj : j < 3 := by
            have := (List.getElem?_eq_some_iff.mp z).1
            rw [List.length_cons] at hc
            omega
          rw [← this]; congr 1; rw [en]; omega, hg⟩, fun j j1 j2 => by rw [ehh10, ueh_n (by omega)]; rw [fr1 j j2, ehh7, ueh_n (by omega)]⟩)
