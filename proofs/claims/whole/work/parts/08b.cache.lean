/-! ===== Cache ===== -/
set_option maxRecDepth 4000 in
theorem t_X0_dropBetween (l : Launch) (h : EHp) (k : Nat) (cap : Int) (cl : List Int) (hC : CA h k cap cl) (lo hi : Int) (hlo : IR lo) (hhi : IR hi) : CT l mX0_dropBetween 0 0 0 [.ref (k), .int (iI (lo)), .int (iI (hi))] NN h (wP (fun v h' => v = .int (iI ((cl.length : Int) - ((cl.filter (dbp lo hi)).length : Int))) ∧ CA h' k cap (cl.filter (dbp lo hi)) ∧ Fr2 h h' k)) := by
  obtain ⟨ks, hK, hS, hlt, hL, hn, hc0, hc8, hv⟩ := hC
  refine CT.of (by decide) (Nat.le_of_ble_eq_true rfl) ?_
  refine g_al (al2 := [some (.ref (k)), some (.int (iI (lo))), some (.int (iI (hi))), none, none, none]) rfl ?_
  refine g_aload_n (q := 1) rfl rfl dX0_dropBetween_0 rfl ?_
  refine g_get (q := 4) fX0_15r (by show _ < 103; omega) hK rfl dX0_dropBetween_1 rfl ?_
  refine g_istore_n (q := 5) (al2 := [some (.ref (k)), some (.int (iI (lo))), some (.int (iI (hi))), some (.int (iI (cl.length))), none, none]) rfl (by decide) rfl rfl dX0_dropBetween_4 rfl ?_
  refine g_iconst (q := 6) dX0_dropBetween_5 rfl ?_
  refine g_istore (q := 8) (al2 := [some (.ref (k)), some (.int (iI (lo))), some (.int (iI (hi))), some (.int (iI (cl.length))), some (.int (iI (0))), none]) (by decide) rfl rfl dX0_dropBetween_6 rfl ?_
  refine g_iconst (q := 9) dX0_dropBetween_8 rfl ?_
  refine g_istore (q := 11) (al2 := [some (.ref (k)), some (.int (iI (lo))), some (.int (iI (hi))), some (.int (iI (cl.length))), some (.int (iI (0))), some (.int (iI (0)))]) (by decide) rfl rfl dX0_dropBetween_9 rfl ?_
  refine loopG (σ := Nat × (Int → Int) × EHp) (P := fun zz => match zz with | (i, ks1, h1) => G l noX mX0_dropBetween 0 0 0 (wP (fun v h' => v = .int (iI ((cl.length : Int) - ((cl.filter (dbp lo hi)).length : Int))) ∧ CA h' k cap (cl.filter (dbp lo hi)) ∧ Fr2 h h' k)) 0 0 11 [some (.ref (k)), some (.int (iI (lo))), some (.int (iI (hi))), some (.int (iI (cl.length))), some (.int (iI (((cl.take i).filter (dbp lo hi)).length))), some (.int (iI (i)))] [] NN h1) (I := fun zz => match zz with | (i, ks1, h1) => i ≤ cl.length ∧ h1 k = cO 0 [.ref (k + 1), .int (iI (cl.length)), .int (iI (cap))] ∧ h1 (k + 1) = cI 8 ks1 ∧ (∀ j, j ≠ k + 1 → h1 j = h j) ∧ (∀ (j : Nat) (v : Int), ((cl.take i).filter (dbp lo hi))[j]? = some v → ks1 j = v) ∧ (∀ (j : Nat) (v : Int), i ≤ j → cl[j]? = some v → ks1 j = v)) (fun zz => match zz with | (i, ks1, h1) => cl.length - i) ?_ (0, ks, h) ⟨Nat.zero_le _, hK, hS, fun _ _ => rfl, fun j v z => by simp at z, fun j v _ z => hL j v z⟩
  rintro ⟨i, ks1, h1⟩ hI ih
  obtain ⟨i1, hK1, hS1, i4, i5, i6⟩ := hI
  have kle : ((cl.take i).filter (dbp lo hi)).length ≤ i := Nat.le_trans (List.length_filter_le _ _) (by rw [List.length_take]; omega)
  refine g_iload (q := 13) rfl dX0_dropBetween_11 rfl ?_
  refine g_iload_n (q := 14) rfl rfl dX0_dropBetween_13 rfl ?_
  refine g_icmp_ge (t := 62) (q := 17) ⟨by omega, by omega⟩ ⟨by omega, by omega⟩ dX0_dropBetween_14 rfl rfl (fun c14 => ?_) (fun c14 => ?_)
  · have e1 : i = cl.length := by omega
    subst e1
    rw [List.take_length] at i5 kle ⊢
    refine g_aload_n (q := 63) rfl rfl dX0_dropBetween_62 rfl ?_
    refine g_iload (q := 65) rfl dX0_dropBetween_63 rfl ?_
    refine g_put (q := 68) fX0_15 (by show _ < 103; omega) hK1 (Nat.le_of_ble_eq_true rfl) (fun _ _ => rfl) (fun _ _ => rfl) dX0_dropBetween_65 rfl ?_
    refine hp_in (fun hh1 ehh1 => ?_)
    have fc2 : hh1 k = cO 0 [.ref (k + 1), .int (iI ((cl.filter (dbp lo hi)).length)), .int (iI (cap))] := by rw [ehh1]; exact ueh_s
    have fc3 : hh1 (k + 1) = cI 8 ks1 := by rw [ehh1, ueh_n (by omega)]; exact hS1
    refine g_iload_n (q := 69) rfl rfl dX0_dropBetween_68 rfl ?_
    refine g_iload (q := 71) rfl dX0_dropBetween_69 rfl ?_
    refine g_isub (q := 72) dX0_dropBetween_71 rfl ?_
    exact g_ireturn (fun z => NN_f z) (Nat.le_of_ble_eq_true rfl) (Nat.le_of_ble_eq_true rfl) dX0_dropBetween_72 rfl (wP_in ⟨rfl, CA.in fc2 fc3 hlt i5 (by omega) hc0 hc8 (fun v z => hv v (List.mem_filter.mp z).1), fun j j1 j2 => by rw [ehh1, ueh_n j1]; exact i4 j j2⟩)
  · obtain ⟨v, hvi⟩ : ∃ v, cl[i]? = some v := ⟨cl[i]'(by omega), List.getElem?_eq_getElem (by omega)⟩
    have ei : ks1 (i : Int) = v := i6 i v (Nat.le_refl _) hvi
    have hvr := hv v (List.mem_of_getElem? hvi)
    refine g_aload_n (q := 18) rfl rfl dX0_dropBetween_17 rfl ?_
    refine g_get (q := 21) fX0_9r (by show _ < 103; omega) hK1 rfl dX0_dropBetween_18 rfl ?_
    refine g_iload (q := 23) rfl dX0_dropBetween_21 rfl ?_
    refine g_iaload (q := 24) (by show _ < 103; omega) hS1 (by omega) (by omega) (by decide) dX0_dropBetween_23 rfl ?_
    refine g_iload_n (q := 25) rfl rfl dX0_dropBetween_24 rfl ?_
    refine g_icmp_lt (t := 39) (q := 28) ⟨by omega, by omega⟩ hlo dX0_dropBetween_25 rfl rfl (fun c25 => ?_) (fun c25 => ?_)
    · refine g_aload_n (q := 40) rfl rfl dX0_dropBetween_39 rfl ?_
      refine g_get (q := 43) fX0_9r (by show _ < 103; omega) hK1 rfl dX0_dropBetween_40 rfl ?_
      refine g_iload (q := 45) rfl dX0_dropBetween_43 rfl ?_
      refine g_aload_n (q := 46) rfl rfl dX0_dropBetween_45 rfl ?_
      refine g_get (q := 49) fX0_9r (by show _ < 103; omega) hK1 rfl dX0_dropBetween_46 rfl ?_
      refine g_iload (q := 51) rfl dX0_dropBetween_49 rfl ?_
      refine g_iaload (q := 52) (by show _ < 103; omega) hS1 (by omega) (by omega) (by decide) dX0_dropBetween_51 rfl ?_
      refine g_iastore (q := 53) (by show _ < 103; omega) hS1 (by omega) (by omega) (by decide) dX0_dropBetween_52 rfl ?_
      refine hp_in (fun hh4 ehh4 => ?_)
      have fc5 : hh4 k = cO 0 [.ref (k + 1), .int (iI (cl.length)), .int (iI (cap))] := by rw [ehh4, ueh_n (by omega)]; exact hK1
      have fc6 : hh4 (k + 1) = cI 8 (ui ks1 (((cl.take i).filter (dbp lo hi)).length) (ks1 i)) := by rw [ehh4]; exact ueh_s
      refine g_iinc (q := 56) (al2 := [some (.ref (k)), some (.int (iI (lo))), some (.int (iI (hi))), some (.int (iI (cl.length))), some (.int (iI ((((cl.take i).filter (dbp lo hi)).length) + 1))), some (.int (iI (i)))]) rfl (by decide) rfl rfl dX0_dropBetween_53 rfl ?_
      refine g_iinc (q := 59) (al2 := [some (.ref (k)), some (.int (iI (lo))), some (.int (iI (hi))), some (.int (iI (cl.length))), some (.int (iI ((((cl.take i).filter (dbp lo hi)).length) + 1))), some (.int (iI (i + 1)))]) rfl (by decide) rfl rfl dX0_dropBetween_56 rfl ?_
      refine g_goto (q := 11) dX0_dropBetween_59 rfl ?_
      have e2 : (cl.take (i + 1)).filter (dbp lo hi) = (cl.take i).filter (dbp lo hi) ++ [v] := by
        rw [take_s hvi, List.filter_append]
        have : dbp lo hi v = true := by unfold dbp; simp; omega
        simp [this]
      have := ih (i + 1, ui ks1 (((cl.take i).filter (dbp lo hi)).length : Nat) (ks1 i), hh4) ⟨show i + 1 ≤ cl.length by omega, fc5, fc6, fun j jj => by rw [ehh4, ueh_n jj]; exact i4 j jj, fun j u z => by
        rw [e2] at z
        by_cases hj : j < ((cl.take i).filter (dbp lo hi)).length
        · rw [List.getElem?_append_left hj] at z
          rw [ui_n (by omega)]
          exact i5 j u z
        · rw [List.getElem?_append_right (by omega)] at z
          have hj0 : j - ((cl.take i).filter (dbp lo hi)).length = 0 := by
            have := (List.getElem?_eq_some_iff.mp z).1
            simp at this; omega
          rw [hj0] at z
          simp at z
          have : (j : Int) = (((cl.take i).filter (dbp lo hi)).length : Nat) := by omega
          rw [this, ui_s, ei]; exact z, fun j u jj z => by
        rw [ui_n (by omega)]
        exact i6 j u (by omega) z⟩ (show cl.length - (i + 1) < cl.length - i by omega)
      dsimp only at this
      rw [e2, List.length_append] at this
      exact this
    · refine g_aload_n (q := 29) rfl rfl dX0_dropBetween_28 rfl ?_
      refine g_get (q := 32) fX0_9r (by show _ < 103; omega) hK1 rfl dX0_dropBetween_29 rfl ?_
      refine g_iload (q := 34) rfl dX0_dropBetween_32 rfl ?_
      refine g_iaload (q := 35) (by show _ < 103; omega) hS1 (by omega) (by omega) (by decide) dX0_dropBetween_34 rfl ?_
      refine g_iload_n (q := 36) rfl rfl dX0_dropBetween_35 rfl ?_
      refine g_icmp_le (t := 56) (q := 39) ⟨by omega, by omega⟩ hhi dX0_dropBetween_36 rfl rfl (fun c36 => ?_) (fun c36 => ?_)
      · refine g_iinc (q := 59) (al2 := [some (.ref (k)), some (.int (iI (lo))), some (.int (iI (hi))), some (.int (iI (cl.length))), some (.int (iI (((cl.take i).filter (dbp lo hi)).length))), some (.int (iI (i + 1)))]) rfl (by decide) rfl rfl dX0_dropBetween_56 rfl ?_
        refine g_goto (q := 11) dX0_dropBetween_59 rfl ?_
        have e2 : (cl.take (i + 1)).filter (dbp lo hi) = (cl.take i).filter (dbp lo hi) := by
          rw [take_s hvi, List.filter_append]
          have : dbp lo hi v = false := by unfold dbp; simp; omega
          simp [this]
        have := ih (i + 1, ks1, h1) ⟨show i + 1 ≤ cl.length by omega, hK1, hS1, i4, fun j u z => i5 j u (by rw [e2] at z; exact z), fun j u jj z => i6 j u (by omega) z⟩ (show cl.length - (i + 1) < cl.length - i by omega)
        dsimp only at this
        rw [e2] at this
        exact this
      · refine g_aload_n (q := 40) rfl rfl dX0_dropBetween_39 rfl ?_
        refine g_get (q := 43) fX0_9r (by show _ < 103; omega) hK1 rfl dX0_dropBetween_40 rfl ?_
        refine g_iload (q := 45) rfl dX0_dropBetween_43 rfl ?_
        refine g_aload_n (q := 46) rfl rfl dX0_dropBetween_45 rfl ?_
        refine g_get (q := 49) fX0_9r (by show _ < 103; omega) hK1 rfl dX0_dropBetween_46 rfl ?_
        refine g_iload (q := 51) rfl dX0_dropBetween_49 rfl ?_
        refine g_iaload (q := 52) (by show _ < 103; omega) hS1 (by omega) (by omega) (by decide) dX0_dropBetween_51 rfl ?_
        refine g_iastore (q := 53) (by show _ < 103; omega) hS1 (by omega) (by omega) (by decide) dX0_dropBetween_52 rfl ?_
        refine hp_in (fun hh7 ehh7 => ?_)
        have fc8 : hh7 k = cO 0 [.ref (k + 1), .int (iI (cl.length)), .int (iI (cap))] := by rw [ehh7, ueh_n (by omega)]; exact hK1
        have fc9 : hh7 (k + 1) = cI 8 (ui ks1 (((cl.take i).filter (dbp lo hi)).length) (ks1 i)) := by rw [ehh7]; exact ueh_s
        refine g_iinc (q := 56) (al2 := [some (.ref (k)), some (.int (iI (lo))), some (.int (iI (hi))), some (.int (iI (cl.length))), some (.int (iI ((((cl.take i).filter (dbp lo hi)).length) + 1))), some (.int (iI (i)))]) rfl (by decide) rfl rfl dX0_dropBetween_53 rfl ?_
        refine g_iinc (q := 59) (al2 := [some (.ref (k)), some (.int (iI (lo))), some (.int (iI (hi))), some (.int (iI (cl.length))), some (.int (iI ((((cl.take i).filter (dbp lo hi)).length) + 1))), some (.int (iI (i + 1)))]) rfl (by decide) rfl rfl dX0_dropBetween_56 rfl ?_
        refine g_goto (q := 11) dX0_dropBetween_59 rfl ?_
        have e2 : (cl.take (i + 1)).filter (dbp lo hi) = (cl.take i).filter (dbp lo hi) ++ [v] := by
          rw [take_s hvi, List.filter_append]
          have : dbp lo hi v = true := by unfold dbp; simp; omega
          simp [this]
        have := ih (i + 1, ui ks1 (((cl.take i).filter (dbp lo hi)).length : Nat) (ks1 i), hh7) ⟨show i + 1 ≤ cl.length by omega, fc8, fc9, fun j jj => by rw [ehh7, ueh_n jj]; exact i4 j jj, fun j u z => by
          rw [e2] at z
          by_cases hj : j < ((cl.take i).filter (dbp lo hi)).length
          · rw [List.getElem?_append_left hj] at z
            rw [ui_n (by omega)]
            exact i5 j u z
          · rw [List.getElem?_append_right (by omega)] at z
            have hj0 : j - ((cl.take i).filter (dbp lo hi)).length = 0 := by
              have := (List.getElem?_eq_some_iff.mp z).1
              simp at this; omega
            rw [hj0] at z
            simp at z
            have : (j : Int) = (((cl.take i).filter (dbp lo hi)).length : Nat) := by omega
            rw [this, ui_s, ei]; exact z, fun j u jj z => by
          rw [ui_n (by omega)]
          exact i6 j u (by omega) z⟩ (show cl.length - (i + 1) < cl.length - i by omega)
        dsimp only at this
        rw [e2, List.length_append] at this
        exact this
set_option maxRecDepth 4000 in
theorem t_X0_shrinkTo (l : Launch) (h : EHp) (k : Nat) (cap : Int) (cl : List Int) (hC : CA h k cap cl) (q : Nat) (hq : q ≤ 8) : CT l mX0_shrinkTo 1 0 0 [.ref (k), .int (iI (q))] NN h (vP (fun h' => CA h' k cap (trim q cl) ∧ Fr2 h h' k)) := by
  obtain ⟨ks, hK, hS, hlt, hL, hn, hc0, hc8, hv⟩ := hC
  refine CT.of (by decide) (Nat.le_of_ble_eq_true rfl) ?_
  refine g_al (al2 := [some (.ref (k)), some (.int (iI (q))), none]) rfl ?_
  refine g_aload_n (q := 1) rfl rfl dX0_shrinkTo_0 rfl ?_
  refine g_get (q := 4) fX0_15r (by show _ < 103; omega) hK rfl dX0_shrinkTo_1 rfl ?_
  refine g_iload_n (q := 5) rfl rfl dX0_shrinkTo_4 rfl ?_
  refine g_isub (q := 6) dX0_shrinkTo_5 rfl ?_
  refine g_istore_n (q := 7) (al2 := [some (.ref (k)), some (.int (iI (q))), some (.int (iI (cl.length - q)))]) rfl (by decide) rfl rfl dX0_shrinkTo_6 rfl ?_
  refine g_iload_n (q := 8) rfl rfl dX0_shrinkTo_7 rfl ?_
  refine g_if_le (t := 30) (q := 11) ⟨by omega, by omega⟩ dX0_shrinkTo_8 rfl rfl (fun c8 => ?_) (fun c8 => ?_)
  · exact g_vreturn (fun z => NN_f z) (Nat.le_of_ble_eq_true rfl) (Nat.le_of_ble_eq_true rfl) dX0_shrinkTo_30 rfl (vP_in ⟨by rw [trim_id (by omega)]; exact ⟨ks, hK, hS, hlt, hL, hn, hc0, hc8, hv⟩, fun j _ _ => rfl⟩)
  · refine g_aload_n (q := 12) rfl rfl dX0_shrinkTo_11 rfl ?_
    refine g_get (q := 15) fX0_9r (by show _ < 103; omega) hK rfl dX0_shrinkTo_12 rfl ?_
    refine g_iload_n (q := 16) rfl rfl dX0_shrinkTo_15 rfl ?_
    refine g_aload_n (q := 17) rfl rfl dX0_shrinkTo_16 rfl ?_
    refine g_get (q := 20) fX0_9r (by show _ < 103; omega) hK rfl dX0_shrinkTo_17 rfl ?_
    refine g_iconst (q := 21) dX0_shrinkTo_20 rfl ?_
    refine g_iload_n (q := 22) rfl rfl dX0_shrinkTo_21 rfl ?_
    refine g_copy (q := 25) acX0_22 (by show _ < 103; omega) hS (by show _ < 103; omega) hS (by omega) (by omega) (by omega) (by omega) (by omega) (by decide) (by decide) (Nat.le_of_ble_eq_true rfl) (Nat.le_of_ble_eq_true rfl) dX0_shrinkTo_22 rfl ?_
    refine hp_in (fun hh1 ehh1 => ?_)
    have fc2 : hh1 k = cO 0 [.ref (k + 1), .int (iI (cl.length)), .int (iI (cap))] := by rw [ehh1, ueh_n (by omega)]; exact hK
    have fc3 : hh1 (k + 1) = cI 8 (cpy ks ks (cl.length - q) 0 q) := by rw [ehh1]; exact ueh_s
    refine g_aload_n (q := 26) rfl rfl dX0_shrinkTo_25 rfl ?_
    refine g_iload_n (q := 27) rfl rfl dX0_shrinkTo_26 rfl ?_
    refine g_put (q := 30) fX0_15 (by show _ < 103; omega) fc2 (Nat.le_of_ble_eq_true rfl) (fun _ _ => rfl) (fun _ _ => rfl) dX0_shrinkTo_27 rfl ?_
    refine hp_in (fun hh4 ehh4 => ?_)
    have fc5 : hh4 k = cO 0 [.ref (k + 1), .int (iI (q)), .int (iI (cap))] := by rw [ehh4]; exact ueh_s
    have fc6 : hh4 (k + 1) = cI 8 (cpy ks ks (cl.length - q) 0 q) := by rw [ehh4, ueh_n (by omega)]; exact fc3
    have e1 : (trim q cl).length = q := by rw [trim_len]; omega
    exact g_vreturn (fun z => NN_f z) (Nat.le_of_ble_eq_true rfl) (Nat.le_of_ble_eq_true rfl) dX0_shrinkTo_30 rfl (vP_in ⟨CA.in (by rw [e1]; exact fc5) fc6 hlt (fun i v z => by
          unfold trim at z
          rw [List.getElem?_drop] at z
          have hi : i < q := by
            have := (List.getElem?_eq_some_iff.mp z).1
            omega
          have := hL _ v z
          unfold cpy
          rw [if_pos (by omega)]
          rw [show (cl.length : Int) - q + ((i : Int) - 0) = ((cl.length - q + i : Nat) : Int) by omega]
          exact this) (by omega) hc0 hc8 (fun v z => hv v (trim_mem z)), fun j j1 j2 => by rw [ehh4, ueh_n (by omega), ehh1, ueh_n (by omega)]⟩)
set_option maxRecDepth 4000 in
theorem t_X0_dropList (l : Launch) (h : EHp) (k : Nat) (cap : Int) (cl : List Int) (hC : CA h k cap cl) (i : Int) (h0 : 0 ≤ i) (h3 : i ≤ 3) : CT l mX0_dropList 1 0 0 [.ref (k), .int (iI (i))] NN h (vP (fun h' => CA h' k cap (cl.filter (dbp (100 * i) (100 * i + 100 - 1))) ∧ Fr2 h h' k)) := by
  have hC0 := hC
  obtain ⟨ks, hK, hS, hlt, hL, hn, hc0, hc8, hv⟩ := hC
  refine CT.of (by decide) (Nat.le_of_ble_eq_true rfl) ?_
  refine g_al (al2 := [some (.ref (k)), some (.int (iI (i)))]) rfl ?_
  refine g_aload_n (q := 1) rfl rfl dX0_dropList_0 rfl ?_
  refine g_bipush (q := 3) (by decide) dX0_dropList_1 rfl ?_
  refine g_iload_n (q := 4) rfl rfl dX0_dropList_3 rfl ?_
  refine g_imul (q := 5) dX0_dropList_4 rfl ?_
  refine g_bipush (q := 7) (by decide) dX0_dropList_5 rfl ?_
  refine g_iload_n (q := 8) rfl rfl dX0_dropList_7 rfl ?_
  refine g_imul (q := 9) dX0_dropList_8 rfl ?_
  refine g_bipush (q := 11) (by decide) dX0_dropList_9 rfl ?_
  refine g_iadd (q := 12) dX0_dropList_11 rfl ?_
  refine g_iconst (q := 13) dX0_dropList_12 rfl ?_
  refine g_isub (q := 14) dX0_dropList_13 rfl ?_
  refine g_Vw (q := 17) (d' := 0) (i := k) (av := [.int (iI (100 * i)), .int (iI (((100 * i) + 100) - 1))]) (st := []) kvX0_28 (t_X0_dropBetween l h k cap cl hC0 (100 * i) (100 * i + 100 - 1) ⟨by omega, by omega⟩ ⟨by omega, by omega⟩) (by show _ < 103; omega) hK rfl (Nat.le_of_ble_eq_true rfl) ⟨(Nat.le_of_ble_eq_true rfl), (Nat.le_of_ble_eq_true rfl)⟩ ⟨(Nat.le_of_ble_eq_true rfl), (Nat.le_of_ble_eq_true rfl)⟩ rfl rfl dX0_dropList_14 rfl (fun v h1 hp => ?_)
  obtain ⟨rfl, p2, p3⟩ := hp
  refine g_pop (q := 18) rfl dX0_dropList_17 rfl ?_
  exact g_vreturn (fun z => NN_f z) (Nat.le_of_ble_eq_true rfl) (Nat.le_of_ble_eq_true rfl) dX0_dropList_18 rfl (vP_in ⟨p2, p3⟩)
set_option maxRecDepth 4000 in
theorem t_X0_resize (l : Launch) (h : EHp) (k : Nat) (cap : Int) (cl : List Int) (hC : CA h k cap cl) (q : Nat) (hq : q ≤ 8) : CT l mX0_resize 2 0 0 [.ref (k), .int (iI (q))] NN h (vP (fun h' => CA h' k q (trim q cl) ∧ Fr2 h h' k)) := by
  have hC0 := hC
  obtain ⟨ks, hK, hS, hlt, hL, hn, hc0, hc8, hv⟩ := hC
  refine CT.of (by decide) (Nat.le_of_ble_eq_true rfl) ?_
  refine g_al (al2 := [some (.ref (k)), some (.int (iI (q)))]) rfl ?_
  refine g_aload_n (q := 1) rfl rfl dX0_resize_0 rfl ?_
  refine g_iload_n (q := 2) rfl rfl dX0_resize_1 rfl ?_
  refine g_Vv (q := 5) (d' := 1) (i := k) (av := [.int (iI (q))]) (st := []) kvX0_32 (t_X0_shrinkTo l h k cap cl hC0 q hq) (by show _ < 103; omega) hK rfl (Nat.le_of_ble_eq_true rfl) ⟨(Nat.le_of_ble_eq_true rfl), (Nat.le_of_ble_eq_true rfl)⟩ ⟨(Nat.le_of_ble_eq_true rfl), (Nat.le_of_ble_eq_true rfl)⟩ rfl rfl dX0_resize_2 rfl (fun h1 hp => ?_)
  obtain ⟨⟨ks2, hK2, hS2, -, hL2, hn2, -, -, hv2⟩, p3⟩ := hp
  refine g_aload_n (q := 6) rfl rfl dX0_resize_5 rfl ?_
  refine g_iload_n (q := 7) rfl rfl dX0_resize_6 rfl ?_
  refine g_put (q := 10) fX0_19 (by show _ < 103; omega) hK2 (Nat.le_of_ble_eq_true rfl) (fun _ _ => rfl) (fun _ _ => rfl) dX0_resize_7 rfl ?_
  refine hp_in (fun hh1 ehh1 => ?_)
  have fc2 : hh1 k = cO 0 [.ref (k + 1), .int (iI ((trim q cl).length)), .int (iI (q))] := by rw [ehh1]; exact ueh_s
  have fc3 : hh1 (k + 1) = cI 8 ks2 := by rw [ehh1, ueh_n (by omega)]; exact hS2
  exact g_vreturn (fun z => NN_f z) (Nat.le_of_ble_eq_true rfl) (Nat.le_of_ble_eq_true rfl) dX0_resize_10 rfl (vP_in ⟨CA.in fc2 fc3 hlt hL2 hn2 (by omega) (by omega) hv2, fun j j1 j2 => by rw [ehh1, ueh_n j1]; exact p3 j j1 j2⟩)
set_option maxRecDepth 4000 in
theorem t_X0_copyFrom (l : Launch) (h : EHp) (k k2 : Nat) (cap cap2 : Int) (cl cl2 : List Int) (hC : CA h k cap cl) (hC2 : CA h k2 cap2 cl2) (hkk : k + 1 < k2 ∨ k2 + 1 < k) : CT l mX0_copyFrom 1 0 0 [.ref (k), .ref (k2)] NN h (vP (fun h' => CA h' k cap2 cl2 ∧ Fr2 h h' k)) := by
  obtain ⟨ks, hK, hS, hlt, hL, hn, hc0, hc8, hv⟩ := hC
  obtain ⟨ks2, hK2, hS2, hlt2, hL2, hn2, hc02, hc82, hv2⟩ := hC2
  refine CT.of (by decide) (Nat.le_of_ble_eq_true rfl) ?_
  refine g_al (al2 := [some (.ref (k)), some (.ref (k2))]) rfl ?_
  refine g_aload_n (q := 1) rfl rfl dX0_copyFrom_0 rfl ?_
  refine g_aload_n (q := 2) rfl rfl dX0_copyFrom_1 rfl ?_
  refine g_get (q := 5) fX0_15r (by show _ < 103; omega) hK2 rfl dX0_copyFrom_2 rfl ?_
  refine g_put (q := 8) fX0_15 (by show _ < 103; omega) hK (Nat.le_of_ble_eq_true rfl) (fun _ _ => rfl) (fun _ _ => rfl) dX0_copyFrom_5 rfl ?_
  refine hp_in (fun hh1 ehh1 => ?_)
  have fc2 : hh1 k = cO 0 [.ref (k + 1), .int (iI (cl2.length)), .int (iI (cap))] := by rw [ehh1]; exact ueh_s
  have fc3 : hh1 (k + 1) = cI 8 ks := by rw [ehh1, ueh_n (by omega)]; exact hS
  have fc4 : hh1 k2 = cO 0 [.ref (k2 + 1), .int (iI (cl2.length)), .int (iI (cap2))] := by rw [ehh1, ueh_n (by omega)]; exact hK2
  have fc5 : hh1 (k2 + 1) = cI 8 ks2 := by rw [ehh1, ueh_n (by omega)]; exact hS2
  refine g_aload_n (q := 9) rfl rfl dX0_copyFrom_8 rfl ?_
  refine g_aload_n (q := 10) rfl rfl dX0_copyFrom_9 rfl ?_
  refine g_get (q := 13) fX0_19r (by show _ < 103; omega) fc4 rfl dX0_copyFrom_10 rfl ?_
  refine g_put (q := 16) fX0_19 (by show _ < 103; omega) fc2 (Nat.le_of_ble_eq_true rfl) (fun _ _ => rfl) (fun _ _ => rfl) dX0_copyFrom_13 rfl ?_
  refine hp_in (fun hh6 ehh6 => ?_)
  have fc7 : hh6 k = cO 0 [.ref (k + 1), .int (iI (cl2.length)), .int (iI (cap2))] := by rw [ehh6]; exact ueh_s
  have fc8 : hh6 (k + 1) = cI 8 ks := by rw [ehh6, ueh_n (by omega)]; exact fc3
  have fc9 : hh6 k2 = cO 0 [.ref (k2 + 1), .int (iI (cl2.length)), .int (iI (cap2))] := by rw [ehh6, ueh_n (by omega)]; exact fc4
  have fc10 : hh6 (k2 + 1) = cI 8 ks2 := by rw [ehh6, ueh_n (by omega)]; exact fc5
  refine g_aload_n (q := 17) rfl rfl dX0_copyFrom_16 rfl ?_
  refine g_get (q := 20) fX0_9r (by show _ < 103; omega) fc9 rfl dX0_copyFrom_17 rfl ?_
  refine g_iconst (q := 21) dX0_copyFrom_20 rfl ?_
  refine g_aload_n (q := 22) rfl rfl dX0_copyFrom_21 rfl ?_
  refine g_get (q := 25) fX0_9r (by show _ < 103; omega) fc7 rfl dX0_copyFrom_22 rfl ?_
  refine g_iconst (q := 26) dX0_copyFrom_25 rfl ?_
  refine g_aload_n (q := 27) rfl rfl dX0_copyFrom_26 rfl ?_
  refine g_get (q := 30) fX0_15r (by show _ < 103; omega) fc7 rfl dX0_copyFrom_27 rfl ?_
  refine g_copy (q := 33) acX0_22 (by show _ < 103; omega) fc10 (by show _ < 103; omega) fc8 (by omega) (by omega) (by omega) (by omega) (by omega) (by decide) (by decide) (Nat.le_of_ble_eq_true rfl) (Nat.le_of_ble_eq_true rfl) dX0_copyFrom_30 rfl ?_
  refine hp_in (fun hh11 ehh11 => ?_)
  have fc12 : hh11 k = cO 0 [.ref (k + 1), .int (iI (cl2.length)), .int (iI (cap2))] := by rw [ehh11, ueh_n (by omega)]; exact fc7
  have fc13 : hh11 (k + 1) = cI 8 (cpy ks2 ks 0 0 cl2.length) := by rw [ehh11]; exact ueh_s
  have fc14 : hh11 k2 = cO 0 [.ref (k2 + 1), .int (iI (cl2.length)), .int (iI (cap2))] := by rw [ehh11, ueh_n (by omega)]; exact fc9
  have fc15 : hh11 (k2 + 1) = cI 8 ks2 := by rw [ehh11, ueh_n (by omega)]; exact fc10
  exact g_vreturn (fun z => NN_f z) (Nat.le_of_ble_eq_true rfl) (Nat.le_of_ble_eq_true rfl) dX0_copyFrom_33 rfl (vP_in ⟨CA.in fc12 fc13 hlt (fun i v z => by
      have hi := (List.getElem?_eq_some_iff.mp z).1
      have := hL2 i v z
      unfold cpy
      rw [if_pos (by omega), show (0 : Int) + ((i : Int) - 0) = i by omega]
      exact this) hn2 hc02 hc82 hv2, fun j j1 j2 => by rw [ehh11, ueh_n (by omega), ehh6, ueh_n (by omega), ehh1, ueh_n (by omega)]⟩)
set_option maxRecDepth 4000 in
theorem t_X0_use (l : Launch) (h : EHp) (k : Nat) (cap : Int) (cl : List Int) (hC : CA h k cap cl) (key : Int) (h0 : 0 ≤ key) (h4 : key < 400) : CT l mX0_use 2 0 0 [.ref (k), .int (iI (key))] NN h (wP (fun v h' => v = .int (iI (if key ∈ cl then 1 else 0)) ∧ CA h' k cap (cUse cap cl key) ∧ Fr2 h h' k)) := by
  have hC0 := hC
  obtain ⟨ks, hK, hS, hlt, hL, hn, hc0, hc8, hv⟩ := hC
  refine CT.of (by decide) (Nat.le_of_ble_eq_true rfl) ?_
  refine g_al (al2 := [some (.ref (k)), some (.int (iI (key))), none]) rfl ?_
  refine g_aload_n (q := 1) rfl rfl dX0_use_0 rfl ?_
  refine g_iload_n (q := 2) rfl rfl dX0_use_1 rfl ?_
  refine g_iload_n (q := 3) rfl rfl dX0_use_2 rfl ?_
  refine g_Vw (q := 6) (d' := 0) (i := k) (av := [.int (iI (key)), .int (iI (key))]) (st := []) kvX0_28 (t_X0_dropBetween l h k cap cl hC0 key key ⟨by omega, by omega⟩ ⟨by omega, by omega⟩) (by show _ < 103; omega) hK rfl (Nat.le_of_ble_eq_true rfl) ⟨(Nat.le_of_ble_eq_true rfl), (Nat.le_of_ble_eq_true rfl)⟩ ⟨(Nat.le_of_ble_eq_true rfl), (Nat.le_of_ble_eq_true rfl)⟩ rfl rfl dX0_use_3 rfl (fun v h1 hp => ?_)
  obtain ⟨rfl, p2, p3⟩ := hp
  have p20 := p2
  obtain ⟨ks1, hK1, hS1, -, hL1, hn1, -, -, hv1⟩ := p2
  have hfl := List.length_filter_le (dbp key key) cl
  refine g_if_le (t := 13) (q := 9) ⟨by omega, by omega⟩ dX0_use_6 rfl rfl (fun c6 => ?_) (fun c6 => ?_)
  · refine g_iconst (q := 14) dX0_use_13 rfl ?_
    have hb : (if key ∈ cl then (1 : Int) else 0) = 0 := if_neg (fun z => by have := db_hit.mpr z; omega)
    refine g_istore_n (q := 15) (al2 := [some (.ref (k)), some (.int (iI (key))), some (.int (iI (0)))]) rfl (by decide) rfl rfl dX0_use_14 rfl ?_
    refine g_aload_n (q := 16) rfl rfl dX0_use_15 rfl ?_
    refine g_get (q := 19) fX0_19r (by show _ < 103; omega) hK1 rfl dX0_use_16 rfl ?_
    refine g_if_le (t := 52) (q := 22) ⟨by omega, by omega⟩ dX0_use_19 rfl rfl (fun c19 => ?_) (fun c19 => ?_)
    · refine g_iload_n (q := 53) rfl rfl dX0_use_52 rfl ?_
      exact g_zreturn (fun z => NN_f z) (Nat.le_of_ble_eq_true rfl) (Nat.le_of_ble_eq_true rfl) dX0_use_53 rfl (Or.inl rfl) (wP_in ⟨by rw [hb], by unfold cUse; rw [if_neg (by omega)]; exact p20, p3⟩)
    · have ec : ((cap - 1).toNat : Int) = cap - 1 := by omega
      refine g_aload_n (q := 23) rfl rfl dX0_use_22 rfl ?_
      refine g_aload_n (q := 24) rfl rfl dX0_use_23 rfl ?_
      refine g_get (q := 27) fX0_19r (by show _ < 103; omega) hK1 rfl dX0_use_24 rfl ?_
      refine g_iconst (q := 28) dX0_use_27 rfl ?_
      refine g_isub (q := 29) dX0_use_28 rfl ?_
      refine g_Vv (q := 32) (d' := 1) (i := k) (av := [.int (iI (cap - 1))]) (st := []) kvX0_32 (by have := t_X0_shrinkTo l h1 k cap (cl.filter (dbp key key)) p20 (cap - 1).toNat (by omega); rw [ec] at this; exact this) (by show _ < 103; omega) hK1 rfl (Nat.le_of_ble_eq_true rfl) ⟨(Nat.le_of_ble_eq_true rfl), (Nat.le_of_ble_eq_true rfl)⟩ ⟨(Nat.le_of_ble_eq_true rfl), (Nat.le_of_ble_eq_true rfl)⟩ rfl rfl dX0_use_29 rfl (fun h2 hp2 => ?_)
      obtain ⟨⟨ks2, hK2, hS2, -, hL2, hn2, -, -, hv2⟩, p4⟩ := hp2
      have hln : (trim (cap - 1).toNat (cl.filter (dbp key key))).length ≤ 7 := by rw [trim_len]; omega
      refine g_aload_n (q := 33) rfl rfl dX0_use_32 rfl ?_
      refine g_get (q := 36) fX0_9r (by show _ < 103; omega) hK2 rfl dX0_use_33 rfl ?_
      refine g_aload_n (q := 37) rfl rfl dX0_use_36 rfl ?_
      refine g_get (q := 40) fX0_15r (by show _ < 103; omega) hK2 rfl dX0_use_37 rfl ?_
      refine g_iload_n (q := 41) rfl rfl dX0_use_40 rfl ?_
      refine g_iastore (q := 42) (by show _ < 103; omega) hS2 (by omega) (by omega) (by decide) dX0_use_41 rfl ?_
      refine hp_in (fun hh1 ehh1 => ?_)
      have fc2 : hh1 k = cO 0 [.ref (k + 1), .int (iI ((trim (cap - 1).toNat (cl.filter (dbp key key))).length)), .int (iI (cap))] := by rw [ehh1, ueh_n (by omega)]; exact hK2
      have fc3 : hh1 (k + 1) = cI 8 (ui ks2 ((trim (cap - 1).toNat (cl.filter (dbp key key))).length) key) := by rw [ehh1]; exact ueh_s
      refine g_aload_n (q := 43) rfl rfl dX0_use_42 rfl ?_
      refine g_dup (q := 44) rfl dX0_use_43 rfl ?_
      refine g_get (q := 47) fX0_15r (by show _ < 103; omega) fc2 rfl dX0_use_44 rfl ?_
      refine g_iconst (q := 48) dX0_use_47 rfl ?_
      refine g_iadd (q := 49) dX0_use_48 rfl ?_
      refine g_put (q := 52) fX0_15 (by show _ < 103; omega) fc2 (Nat.le_of_ble_eq_true rfl) (fun _ _ => rfl) (fun _ _ => rfl) dX0_use_49 rfl ?_
      refine hp_in (fun hh4 ehh4 => ?_)
      have fc5 : hh4 k = cO 0 [.ref (k + 1), .int (iI (((trim (cap - 1).toNat (cl.filter (dbp key key))).length) + 1)), .int (iI (cap))] := by rw [ehh4]; exact ueh_s
      have fc6 : hh4 (k + 1) = cI 8 (ui ks2 ((trim (cap - 1).toNat (cl.filter (dbp key key))).length) key) := by rw [ehh4, ueh_n (by omega)]; exact fc3
      refine g_iload_n (q := 53) rfl rfl dX0_use_52 rfl ?_
      exact g_zreturn (fun z => NN_f z) (Nat.le_of_ble_eq_true rfl) (Nat.le_of_ble_eq_true rfl) dX0_use_53 rfl (Or.inl rfl) (wP_in ⟨by rw [hb], by
            unfold cUse
            rw [if_pos (by omega)]
            refine CA.in (by rw [List.length_append]; exact fc5) fc6 hlt (fun i v z => ?_) (by rw [List.length_append, List.length_singleton]; omega) hc0 hc8 (fun v z => ?_)
            · by_cases hi : i < (trim (cap - 1).toNat (cl.filter (dbp key key))).length
              · rw [List.getElem?_append_left hi] at z
                rw [ui_n (by omega)]
                exact hL2 i v z
              · rw [List.getElem?_append_right (by omega)] at z
                have hi0 : i - (trim (cap - 1).toNat (cl.filter (dbp key key))).length = 0 := by
                  have := (List.getElem?_eq_some_iff.mp z).1
                  rw [List.length_singleton] at this; omega
                rw [hi0] at z
                simp at z
                rw [show (i : Int) = ((trim (cap - 1).toNat (cl.filter (dbp key key))).length : Nat) by omega, ui_s]
                exact z
            · rcases List.mem_append.mp z with z | z
              · exact hv2 v z
              · rw [List.mem_singleton.mp z]; exact ⟨h0, h4⟩, fun j j1 j2 => by rw [ehh4, ueh_n (by omega), ehh1, ueh_n (by omega)]; rw [p4 j j1 j2]; exact p3 j j1 j2⟩)
  · refine g_iconst (q := 10) dX0_use_9 rfl ?_
    refine g_goto (q := 14) dX0_use_10 rfl ?_
    have hb : (if key ∈ cl then (1 : Int) else 0) = 1 := if_pos (db_hit.mp (by omega))
    refine g_istore_n (q := 15) (al2 := [some (.ref (k)), some (.int (iI (key))), some (.int (iI (1)))]) rfl (by decide) rfl rfl dX0_use_14 rfl ?_
    refine g_aload_n (q := 16) rfl rfl dX0_use_15 rfl ?_
    refine g_get (q := 19) fX0_19r (by show _ < 103; omega) hK1 rfl dX0_use_16 rfl ?_
    refine g_if_le (t := 52) (q := 22) ⟨by omega, by omega⟩ dX0_use_19 rfl rfl (fun c19 => ?_) (fun c19 => ?_)
    · refine g_iload_n (q := 53) rfl rfl dX0_use_52 rfl ?_
      exact g_zreturn (fun z => NN_f z) (Nat.le_of_ble_eq_true rfl) (Nat.le_of_ble_eq_true rfl) dX0_use_53 rfl (Or.inr rfl) (wP_in ⟨by rw [hb], by unfold cUse; rw [if_neg (by omega)]; exact p20, p3⟩)
    · have ec : ((cap - 1).toNat : Int) = cap - 1 := by omega
      refine g_aload_n (q := 23) rfl rfl dX0_use_22 rfl ?_
      refine g_aload_n (q := 24) rfl rfl dX0_use_23 rfl ?_
      refine g_get (q := 27) fX0_19r (by show _ < 103; omega) hK1 rfl dX0_use_24 rfl ?_
      refine g_iconst (q := 28) dX0_use_27 rfl ?_
      refine g_isub (q := 29) dX0_use_28 rfl ?_
      refine g_Vv (q := 32) (d' := 1) (i := k) (av := [.int (iI (cap - 1))]) (st := []) kvX0_32 (by have := t_X0_shrinkTo l h1 k cap (cl.filter (dbp key key)) p20 (cap - 1).toNat (by omega); rw [ec] at this; exact this) (by show _ < 103; omega) hK1 rfl (Nat.le_of_ble_eq_true rfl) ⟨(Nat.le_of_ble_eq_true rfl), (Nat.le_of_ble_eq_true rfl)⟩ ⟨(Nat.le_of_ble_eq_true rfl), (Nat.le_of_ble_eq_true rfl)⟩ rfl rfl dX0_use_29 rfl (fun h2 hp2 => ?_)
      obtain ⟨⟨ks2, hK2, hS2, -, hL2, hn2, -, -, hv2⟩, p4⟩ := hp2
      have hln : (trim (cap - 1).toNat (cl.filter (dbp key key))).length ≤ 7 := by rw [trim_len]; omega
      refine g_aload_n (q := 33) rfl rfl dX0_use_32 rfl ?_
      refine g_get (q := 36) fX0_9r (by show _ < 103; omega) hK2 rfl dX0_use_33 rfl ?_
      refine g_aload_n (q := 37) rfl rfl dX0_use_36 rfl ?_
      refine g_get (q := 40) fX0_15r (by show _ < 103; omega) hK2 rfl dX0_use_37 rfl ?_
      refine g_iload_n (q := 41) rfl rfl dX0_use_40 rfl ?_
      refine g_iastore (q := 42) (by show _ < 103; omega) hS2 (by omega) (by omega) (by decide) dX0_use_41 rfl ?_
      refine hp_in (fun hh7 ehh7 => ?_)
      have fc8 : hh7 k = cO 0 [.ref (k + 1), .int (iI ((trim (cap - 1).toNat (cl.filter (dbp key key))).length)), .int (iI (cap))] := by rw [ehh7, ueh_n (by omega)]; exact hK2
      have fc9 : hh7 (k + 1) = cI 8 (ui ks2 ((trim (cap - 1).toNat (cl.filter (dbp key key))).length) key) := by rw [ehh7]; exact ueh_s
      refine g_aload_n (q := 43) rfl rfl dX0_use_42 rfl ?_
      refine g_dup (q := 44) rfl dX0_use_43 rfl ?_
      refine g_get (q := 47) fX0_15r (by show _ < 103; omega) fc8 rfl dX0_use_44 rfl ?_
      refine g_iconst (q := 48) dX0_use_47 rfl ?_
      refine g_iadd (q := 49) dX0_use_48 rfl ?_
      refine g_put (q := 52) fX0_15 (by show _ < 103; omega) fc8 (Nat.le_of_ble_eq_true rfl) (fun _ _ => rfl) (fun _ _ => rfl) dX0_use_49 rfl ?_
      refine hp_in (fun hh10 ehh10 => ?_)
      have fc11 : hh10 k = cO 0 [.ref (k + 1), .int (iI (((trim (cap - 1).toNat (cl.filter (dbp key key))).length) + 1)), .int (iI (cap))] := by rw [ehh10]; exact ueh_s
      have fc12 : hh10 (k + 1) = cI 8 (ui ks2 ((trim (cap - 1).toNat (cl.filter (dbp key key))).length) key) := by rw [ehh10, ueh_n (by omega)]; exact fc9
      refine g_iload_n (q := 53) rfl rfl dX0_use_52 rfl ?_
      exact g_zreturn (fun z => NN_f z) (Nat.le_of_ble_eq_true rfl) (Nat.le_of_ble_eq_true rfl) dX0_use_53 rfl (Or.inr rfl) (wP_in ⟨by rw [hb], by
            unfold cUse
            rw [if_pos (by omega)]
            refine CA.in (by rw [List.length_append]; exact fc11) fc12 hlt (fun i v z => ?_) (by rw [List.length_append, List.length_singleton]; omega) hc0 hc8 (fun v z => ?_)
            · by_cases hi : i < (trim (cap - 1).toNat (cl.filter (dbp key key))).length
              · rw [List.getElem?_append_left hi] at z
                rw [ui_n (by omega)]
                exact hL2 i v z
              · rw [List.getElem?_append_right (by omega)] at z
                have hi0 : i - (trim (cap - 1).toNat (cl.filter (dbp key key))).length = 0 := by
                  have := (List.getElem?_eq_some_iff.mp z).1
                  rw [List.length_singleton] at this; omega
                rw [hi0] at z
                simp at z
                rw [show (i : Int) = ((trim (cap - 1).toNat (cl.filter (dbp key key))).length : Nat) by omega, ui_s]
                exact z
            · rcases List.mem_append.mp z with z | z
              · exact hv2 v z
              · rw [List.mem_singleton.mp z]; exact ⟨h0, h4⟩, fun j j1 j2 => by rw [ehh10, ueh_n (by omega), ehh7, ueh_n (by omega)]; rw [p4 j j1 j2]; exact p3 j j1 j2⟩)
