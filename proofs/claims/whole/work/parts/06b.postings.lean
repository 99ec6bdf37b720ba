/-! ===== Postings: what is read ===== -/
set_option maxRecDepth 4000 in
theorem t_X4_documentAt (l : Launch) (h : EHp) (a : Nat) (c m : Int) (ds fa : Int → Int) (hA : PA h a c m ds fa) (hO : LOk c ds) (i : Int) (hi : IR i) : CT l mX4_documentAt 0 0 0 [.ref (a), .int (iI (i))] NN h (rP (.int (iI (dA c ds i))) h) := by
  obtain ⟨hP, hD, hF, hlt⟩ := hA
  obtain ⟨o1, o2, o3, o4⟩ := id hO
  refine CT.of (by decide) (Nat.le_of_ble_eq_true rfl) ?_
  refine g_al (al2 := [some (.ref (a)), some (.int (iI (i)))]) rfl ?_
  refine g_iload_n (q := 1) rfl rfl dX4_documentAt_0 rfl ?_
  refine g_if_lt (t := 21) (q := 4) hi dX4_documentAt_1 rfl rfl (fun c1 => ?_) (fun c1 => ?_)
  · refine g_iconst (q := 22) dX4_documentAt_21 rfl ?_
    have e1 : dA c ds i = -1 := dA_out (by omega)
    rw [e1]
    exact g_ireturn (fun z => NN_f z) (Nat.le_of_ble_eq_true rfl) (Nat.le_of_ble_eq_true rfl) dX4_documentAt_22 rfl rP_in
  · refine g_iload_n (q := 5) rfl rfl dX4_documentAt_4 rfl ?_
    refine g_aload_n (q := 6) rfl rfl dX4_documentAt_5 rfl ?_
    refine g_get (q := 9) fX4_15r (by show _ < 103; omega) hP rfl dX4_documentAt_6 rfl ?_
    refine g_icmp_ge (t := 21) (q := 12) hi ⟨by omega, by omega⟩ dX4_documentAt_9 rfl rfl (fun c9 => ?_) (fun c9 => ?_)
    · refine g_iconst (q := 22) dX4_documentAt_21 rfl ?_
      have e1 : dA c ds i = -1 := dA_out (by omega)
      rw [e1]
      exact g_ireturn (fun z => NN_f z) (Nat.le_of_ble_eq_true rfl) (Nat.le_of_ble_eq_true rfl) dX4_documentAt_22 rfl rP_in
    · refine g_aload_n (q := 13) rfl rfl dX4_documentAt_12 rfl ?_
      refine g_get (q := 16) fX4_9r (by show _ < 103; omega) hP rfl dX4_documentAt_13 rfl ?_
      refine g_iload_n (q := 17) rfl rfl dX4_documentAt_16 rfl ?_
      refine g_iaload (q := 18) (by show _ < 103; omega) hD (by omega) (by omega) (by decide) dX4_documentAt_17 rfl ?_
      refine g_goto (q := 22) dX4_documentAt_18 rfl ?_
      have e1 : dA c ds i = ds i := dA_in (by omega) (by omega)
      rw [e1]
      exact g_ireturn (fun z => NN_f z) (Nat.le_of_ble_eq_true rfl) (Nat.le_of_ble_eq_true rfl) dX4_documentAt_22 rfl rP_in
set_option maxRecDepth 4000 in
theorem t_X4_lastDocument (l : Launch) (h : EHp) (a : Nat) (c m : Int) (ds fa : Int → Int) (hA : PA h a c m ds fa) (hO : LOk c ds) : CT l mX4_lastDocument 1 0 0 [.ref (a)] NN h (rP (.int (iI (dA c ds (c - 1)))) h) := by
  have hA0 := hA
  obtain ⟨hP, hD, hF, hlt⟩ := hA
  obtain ⟨o1, o2, o3, o4⟩ := id hO
  refine CT.of (by decide) (Nat.le_of_ble_eq_true rfl) ?_
  refine g_al (al2 := [some (.ref (a))]) rfl ?_
  refine g_aload_n (q := 1) rfl rfl dX4_lastDocument_0 rfl ?_
  refine g_aload_n (q := 2) rfl rfl dX4_lastDocument_1 rfl ?_
  refine g_get (q := 5) fX4_15r (by show _ < 103; omega) hP rfl dX4_lastDocument_2 rfl ?_
  refine g_iconst (q := 6) dX4_lastDocument_5 rfl ?_
  refine g_isub (q := 7) dX4_lastDocument_6 rfl ?_
  refine g_Vr (q := 10) (d' := 0) (i := a) (av := [.int (iI (c - 1))]) (st := []) (v := .int (iI (dA c ds (c - 1)))) kvX4_31 (t_X4_documentAt l h a c m ds fa hA0 hO (c - 1) ⟨by omega, by omega⟩) (by show _ < 103; omega) hP rfl (Nat.le_of_ble_eq_true rfl) ⟨(Nat.le_of_ble_eq_true rfl), (Nat.le_of_ble_eq_true rfl)⟩ ⟨(Nat.le_of_ble_eq_true rfl), (Nat.le_of_ble_eq_true rfl)⟩ rfl rfl dX4_lastDocument_7 rfl ?_
  exact g_ireturn (fun z => NN_f z) (Nat.le_of_ble_eq_true rfl) (Nat.le_of_ble_eq_true rfl) dX4_lastDocument_10 rfl rP_in
set_option maxRecDepth 4000 in
theorem t_X4_countBelow (l : Launch) (h : EHp) (a : Nat) (c m : Int) (ds fa : Int → Int) (hA : PA h a c m ds fa) (hO : LOk c ds) (x : Int) (hx : IR x) : CT l mX4_countBelow 0 0 0 [.ref (a), .int (iI (x))] NN h (rP (.int (iI (cb c ds x))) h) := by
  obtain ⟨hP, hD, hF, hlt⟩ := hA
  obtain ⟨o1, o2, o3, o4⟩ := id hO
  refine CT.of (by decide) (Nat.le_of_ble_eq_true rfl) ?_
  refine g_al (al2 := [some (.ref (a)), some (.int (iI (x))), none]) rfl ?_
  refine g_iconst (q := 1) dX4_countBelow_0 rfl ?_
  refine g_istore_n (q := 2) (al2 := [some (.ref (a)), some (.int (iI (x))), some (.int (iI (0)))]) rfl (by decide) rfl rfl dX4_countBelow_1 rfl ?_
  refine loopG (σ := Int) (P := fun b => G l noX mX4_countBelow 0 0 0 (rP (.int (iI (cb c ds x))) h) 0 0 2 [some (.ref (a)), some (.int (iI (x))), some (.int (iI (b)))] [] NN h) (I := fun b => 0 ≤ b ∧ b ≤ c ∧ ∀ i, 0 ≤ i → i < b → ds i < x) (fun b => (c - b).toNat) ?_ 0 ⟨by omega, by omega, fun i i0 i1 => by omega⟩
  intro b hI ih
  obtain ⟨i1, i2, i3⟩ := hI
  refine g_iload_n (q := 3) rfl rfl dX4_countBelow_2 rfl ?_
  refine g_aload_n (q := 4) rfl rfl dX4_countBelow_3 rfl ?_
  refine g_get (q := 7) fX4_15r (by show _ < 103; omega) hP rfl dX4_countBelow_4 rfl ?_
  refine g_icmp_ge (t := 26) (q := 10) ⟨by omega, by omega⟩ ⟨by omega, by omega⟩ dX4_countBelow_7 rfl rfl (fun c7 => ?_) (fun c7 => ?_)
  · have e1 : b = cb c ds x := cb_eq ⟨i1, i2, i3, fun z => by omega⟩
    rw [e1]
    refine g_iload_n (q := 27) rfl rfl dX4_countBelow_26 rfl ?_
    exact g_ireturn (fun z => NN_f z) (Nat.le_of_ble_eq_true rfl) (Nat.le_of_ble_eq_true rfl) dX4_countBelow_27 rfl rP_in
  · refine g_aload_n (q := 11) rfl rfl dX4_countBelow_10 rfl ?_
    refine g_get (q := 14) fX4_9r (by show _ < 103; omega) hP rfl dX4_countBelow_11 rfl ?_
    refine g_iload_n (q := 15) rfl rfl dX4_countBelow_14 rfl ?_
    refine g_iaload (q := 16) (by show _ < 103; omega) hD (by omega) (by omega) (by decide) dX4_countBelow_15 rfl ?_
    have q1 := o3 b (by omega) (by omega)
    refine g_iload_n (q := 17) rfl rfl dX4_countBelow_16 rfl ?_
    refine g_icmp_ge (t := 26) (q := 20) ⟨by omega, by omega⟩ hx dX4_countBelow_17 rfl rfl (fun c17 => ?_) (fun c17 => ?_)
    · have e1 : b = cb c ds x := cb_eq ⟨i1, i2, i3, fun z => by omega⟩
      rw [e1]
      refine g_iload_n (q := 27) rfl rfl dX4_countBelow_26 rfl ?_
      exact g_ireturn (fun z => NN_f z) (Nat.le_of_ble_eq_true rfl) (Nat.le_of_ble_eq_true rfl) dX4_countBelow_27 rfl rP_in
    · refine g_iinc (q := 23) (al2 := [some (.ref (a)), some (.int (iI (x))), some (.int (iI (b + 1)))]) rfl (by decide) rfl rfl dX4_countBelow_20 rfl ?_
      refine g_goto (q := 2) dX4_countBelow_23 rfl ?_
      exact ih (b + 1) ⟨by omega, by omega, fun i i0 i1 => by
        by_cases e : i = b
        · rw [e]; omega
        · exact i3 i i0 (by omega)⟩ (by omega)
set_option maxRecDepth 4000 in
theorem t_X4_widthBetween (l : Launch) (h : EHp) (a : Nat) (c m : Int) (ds fa : Int → Int) (hA : PA h a c m ds fa) (hO : LOk c ds) (s e : Int) (h0 : 0 ≤ s) (h1 : s < e) (h2 : e ≤ c) : CT l mX4_widthBetween 1 0 0 [.ref (a), .int (iI (s)), .int (iI (e))] NN h (rP (.int (iI (ds (e - 1) - ds s + 1))) h) := by
  have hA0 := hA
  obtain ⟨hP, hD, hF, hlt⟩ := hA
  obtain ⟨o1, o2, o3, o4⟩ := id hO
  have q1 := dA_in (ds := ds) (show 0 ≤ e - 1 by omega) (show e - 1 < c by omega)
  have q2 := dA_in (ds := ds) h0 (show s < c by omega)
  refine CT.of (by decide) (Nat.le_of_ble_eq_true rfl) ?_
  refine g_al (al2 := [some (.ref (a)), some (.int (iI (s))), some (.int (iI (e)))]) rfl ?_
  refine g_aload_n (q := 1) rfl rfl dX4_widthBetween_0 rfl ?_
  refine g_iload_n (q := 2) rfl rfl dX4_widthBetween_1 rfl ?_
  refine g_iconst (q := 3) dX4_widthBetween_2 rfl ?_
  refine g_isub (q := 4) dX4_widthBetween_3 rfl ?_
  refine g_Vr (q := 7) (d' := 0) (i := a) (av := [.int (iI (e - 1))]) (st := []) (v := .int (iI (ds (e - 1)))) kvX4_31 (by have := t_X4_documentAt l h a c m ds fa hA0 hO (e - 1) ⟨by omega, by omega⟩; rw [q1] at this; exact this) (by show _ < 103; omega) hP rfl (Nat.le_of_ble_eq_true rfl) ⟨(Nat.le_of_ble_eq_true rfl), (Nat.le_of_ble_eq_true rfl)⟩ ⟨(Nat.le_of_ble_eq_true rfl), (Nat.le_of_ble_eq_true rfl)⟩ rfl rfl dX4_widthBetween_4 rfl ?_
  refine g_aload_n (q := 8) rfl rfl dX4_widthBetween_7 rfl ?_
  refine g_iload_n (q := 9) rfl rfl dX4_widthBetween_8 rfl ?_
  refine g_Vr (q := 12) (d' := 0) (i := a) (av := [.int (iI (s))]) (st := [.int (iI (ds (e - 1)))]) (v := .int (iI (ds s))) kvX4_31 (by have := t_X4_documentAt l h a c m ds fa hA0 hO s ⟨by omega, by omega⟩; rw [q2] at this; exact this) (by show _ < 103; omega) hP rfl (Nat.le_of_ble_eq_true rfl) ⟨(Nat.le_of_ble_eq_true rfl), (Nat.le_of_ble_eq_true rfl)⟩ ⟨(Nat.le_of_ble_eq_true rfl), (Nat.le_of_ble_eq_true rfl)⟩ rfl rfl dX4_widthBetween_9 rfl ?_
  refine g_isub (q := 13) dX4_widthBetween_12 rfl ?_
  refine g_iconst (q := 14) dX4_widthBetween_13 rfl ?_
  refine g_iadd (q := 15) dX4_widthBetween_14 rfl ?_
  exact g_ireturn (fun z => NN_f z) (Nat.le_of_ble_eq_true rfl) (Nat.le_of_ble_eq_true rfl) dX4_widthBetween_15 rfl rP_in
set_option maxRecDepth 4000 in
theorem t_X4_factOf (l : Launch) (h : EHp) (a : Nat) (c m : Int) (ds fa : Int → Int) (hA : PA h a c m ds fa) (j t : Int) (h0 : 0 ≤ j) (h1 : j < 64) (h2 : 0 ≤ t) (h3 : t < 6) : CT l mX4_factOf 0 0 0 [.ref (a), .int (iI (j)), .int (iI (t))] NN h (rP (.int (iI (fa (j * 6 + t)))) h) := by
  obtain ⟨hP, hD, hF, hlt⟩ := hA
  refine CT.of (by decide) (Nat.le_of_ble_eq_true rfl) ?_
  refine g_al (al2 := [some (.ref (a)), some (.int (iI (j))), some (.int (iI (t)))]) rfl ?_
  refine g_aload_n (q := 1) rfl rfl dX4_factOf_0 rfl ?_
  refine g_get (q := 4) fX4_19r (by show _ < 103; omega) hP rfl dX4_factOf_1 rfl ?_
  refine g_iload_n (q := 5) rfl rfl dX4_factOf_4 rfl ?_
  refine g_bipush (q := 7) (by decide) dX4_factOf_5 rfl ?_
  refine g_imul (q := 8) dX4_factOf_7 rfl ?_
  refine g_iload_n (q := 9) rfl rfl dX4_factOf_8 rfl ?_
  refine g_iadd (q := 10) dX4_factOf_9 rfl ?_
  refine g_iaload (q := 11) (by show _ < 103; omega) hF (by omega) (by omega) (by decide) dX4_factOf_10 rfl ?_
  exact g_ireturn (fun z => NN_f z) (Nat.le_of_ble_eq_true rfl) (Nat.le_of_ble_eq_true rfl) dX4_factOf_11 rfl rP_in
set_option maxRecDepth 4000 in
theorem t_X4_widthOf (l : Launch) (h : EHp) (a : Nat) (c m : Int) (ds fa : Int → Int) (hA : PA h a c m ds fa) (j : Int) (h0 : 0 ≤ j) (h1 : j < 64) : CT l mX4_widthOf 1 0 0 [.ref (a), .int (iI (j))] NN h (rP (.int (iI (fa (j * 6 + 3) - fa (j * 6 + 2) + 1))) h) := by
  have hA0 := hA
  obtain ⟨hP, hD, hF, hlt⟩ := hA
  refine CT.of (by decide) (Nat.le_of_ble_eq_true rfl) ?_
  refine g_al (al2 := [some (.ref (a)), some (.int (iI (j)))]) rfl ?_
  refine g_aload_n (q := 1) rfl rfl dX4_widthOf_0 rfl ?_
  refine g_iload_n (q := 2) rfl rfl dX4_widthOf_1 rfl ?_
  refine g_iconst (q := 3) dX4_widthOf_2 rfl ?_
  refine g_Vr (q := 6) (d' := 0) (i := a) (av := [.int (iI (j)), .int (iI (3))]) (st := []) (v := .int (iI (fa (j * 6 + 3)))) kvX4_44 (t_X4_factOf l h a c m ds fa hA0 j 3 h0 h1 (by decide) (by decide)) (by show _ < 103; omega) hP rfl (Nat.le_of_ble_eq_true rfl) ⟨(Nat.le_of_ble_eq_true rfl), (Nat.le_of_ble_eq_true rfl)⟩ ⟨(Nat.le_of_ble_eq_true rfl), (Nat.le_of_ble_eq_true rfl)⟩ rfl rfl dX4_widthOf_3 rfl ?_
  refine g_aload_n (q := 7) rfl rfl dX4_widthOf_6 rfl ?_
  refine g_iload_n (q := 8) rfl rfl dX4_widthOf_7 rfl ?_
  refine g_iconst (q := 9) dX4_widthOf_8 rfl ?_
  refine g_Vr (q := 12) (d' := 0) (i := a) (av := [.int (iI (j)), .int (iI (2))]) (st := [.int (iI (fa (j * 6 + 3)))]) (v := .int (iI (fa (j * 6 + 2)))) kvX4_44 (t_X4_factOf l h a c m ds fa hA0 j 2 h0 h1 (by decide) (by decide)) (by show _ < 103; omega) hP rfl (Nat.le_of_ble_eq_true rfl) ⟨(Nat.le_of_ble_eq_true rfl), (Nat.le_of_ble_eq_true rfl)⟩ ⟨(Nat.le_of_ble_eq_true rfl), (Nat.le_of_ble_eq_true rfl)⟩ rfl rfl dX4_widthOf_9 rfl ?_
  refine g_isub (q := 13) dX4_widthOf_12 rfl ?_
  refine g_iconst (q := 14) dX4_widthOf_13 rfl ?_
  refine g_iadd (q := 15) dX4_widthOf_14 rfl ?_
  exact g_ireturn (fun z => NN_f z) (Nat.le_of_ble_eq_true rfl) (Nat.le_of_ble_eq_true rfl) dX4_widthOf_15 rfl rP_in
set_option maxRecDepth 4000 in
theorem t_X4_codeSize (l : Launch) (h : EHp) (a : Nat) (c : Int) (m : Nat) (ds fa : Int → Int) (hA : PA h a c m ds fa) (hm : m ≤ 64) : CT l mX4_codeSize 1 0 0 [.ref (a)] NN h (rP (.int (iI (szS fa m))) h) := by
  have hA0 := hA
  obtain ⟨hP, hD, hF, hlt⟩ := hA
  refine CT.of (by decide) (Nat.le_of_ble_eq_true rfl) ?_
  refine g_al (al2 := [some (.ref (a)), none, none]) rfl ?_
  refine g_iconst (q := 1) dX4_codeSize_0 rfl ?_
  refine g_istore_n (q := 2) (al2 := [some (.ref (a)), some (.int (iI (0))), none]) rfl (by decide) rfl rfl dX4_codeSize_1 rfl ?_
  refine g_iconst (q := 3) dX4_codeSize_2 rfl ?_
  refine g_istore_n (q := 4) (al2 := [some (.ref (a)), some (.int (iI (0))), some (.int (iI (0)))]) rfl (by decide) rfl rfl dX4_codeSize_3 rfl ?_
  refine loopG (σ := Nat) (P := fun b => G l noX mX4_codeSize 1 0 0 (rP (.int (iI (szS fa m))) h) 0 0 4 [some (.ref (a)), some (.int (iI (szS fa b))), some (.int (iI ((b : Nat))))] [] NN h) (I := fun b => b ≤ m) (fun b => m - b) ?_ 0 (Nat.zero_le _)
  intro b hI ih
  refine g_iload_n (q := 5) rfl rfl dX4_codeSize_4 rfl ?_
  refine g_aload_n (q := 6) rfl rfl dX4_codeSize_5 rfl ?_
  refine g_get (q := 9) fX4_22r (by show _ < 103; omega) hP rfl dX4_codeSize_6 rfl ?_
  refine g_icmp_ge (t := 27) (q := 12) ⟨by omega, by omega⟩ ⟨by omega, by omega⟩ dX4_codeSize_9 rfl rfl (fun c9 => ?_) (fun c9 => ?_)
  · have e1 : b = m := by omega
    subst e1
    refine g_iload_n (q := 28) rfl rfl dX4_codeSize_27 rfl ?_
    exact g_ireturn (fun z => NN_f z) (Nat.le_of_ble_eq_true rfl) (Nat.le_of_ble_eq_true rfl) dX4_codeSize_28 rfl rP_in
  · refine g_iload_n (q := 13) rfl rfl dX4_codeSize_12 rfl ?_
    refine g_aload_n (q := 14) rfl rfl dX4_codeSize_13 rfl ?_
    refine g_iload_n (q := 15) rfl rfl dX4_codeSize_14 rfl ?_
    refine g_iconst (q := 16) dX4_codeSize_15 rfl ?_
    refine g_Vr (q := 19) (d' := 0) (i := a) (av := [.int (iI ((b : Nat))), .int (iI (4))]) (st := [.int (iI (szS fa b))]) (v := .int (iI (fa ((b : Int) * 6 + 4)))) kvX4_44 (t_X4_factOf l h a c m ds fa hA0 (b : Int) 4 (by omega) (by omega) (by decide) (by decide)) (by show _ < 103; omega) hP rfl (Nat.le_of_ble_eq_true rfl) ⟨(Nat.le_of_ble_eq_true rfl), (Nat.le_of_ble_eq_true rfl)⟩ ⟨(Nat.le_of_ble_eq_true rfl), (Nat.le_of_ble_eq_true rfl)⟩ rfl rfl dX4_codeSize_16 rfl ?_
    refine g_iadd (q := 20) dX4_codeSize_19 rfl ?_
    refine g_istore_n (q := 21) (al2 := [some (.ref (a)), some (.int (iI ((szS fa b) + (fa ((b : Int) * 6 + 4))))), some (.int (iI ((b : Nat))))]) rfl (by decide) rfl rfl dX4_codeSize_20 rfl ?_
    refine g_iinc (q := 24) (al2 := [some (.ref (a)), some (.int (iI ((szS fa b) + (fa ((b : Int) * 6 + 4))))), some (.int (iI (((b : Nat)) + 1)))]) rfl (by decide) rfl rfl dX4_codeSize_21 rfl ?_
    refine g_goto (q := 4) dX4_codeSize_24 rfl ?_
    exact ih (b + 1) (show b + 1 ≤ m by omega) (by omega)
set_option maxRecDepth 4000 in
theorem t_X4_sizeInParts (l : Launch) (h : EHp) (a : Nat) (c m : Int) (ds fa : Int → Int) (hA : PA h a c m ds fa) (hO : LOk c ds) (n : Int) (h0 : 1 ≤ n) (h1 : n ≤ 64) : CT l mX4_sizeInParts 2 0 0 [.ref (a), .int (iI (n))] NN h (rP (.int (iI (flen c ds n))) h) := by
  have hA0 := hA
  obtain ⟨hP, hD, hF, hlt⟩ := hA
  obtain ⟨o1, o2, o3, o4⟩ := id hO
  refine CT.of (by decide) (Nat.le_of_ble_eq_true rfl) ?_
  refine g_al (al2 := [some (.ref (a)), some (.int (iI (n))), none, none, none, none]) rfl ?_
  refine g_iconst (q := 1) dX4_sizeInParts_0 rfl ?_
  refine g_istore_n (q := 2) (al2 := [some (.ref (a)), some (.int (iI (n))), some (.int (iI (0))), none, none, none]) rfl (by decide) rfl rfl dX4_sizeInParts_1 rfl ?_
  refine g_iconst (q := 3) dX4_sizeInParts_2 rfl ?_
  refine g_istore_n (q := 4) (al2 := [some (.ref (a)), some (.int (iI (n))), some (.int (iI (0))), some (.int (iI (0))), none, none]) rfl (by decide) rfl rfl dX4_sizeInParts_3 rfl ?_
  refine loopG (σ := Nat × Int) (P := fun zz => match zz with | (b, sm) => G l noX mX4_sizeInParts 2 0 0 (rP (.int (iI (flen c ds n))) h) 0 0 4 [some (.ref (a)), some (.int (iI (n))), some (.int (iI (sm))), some (.int (iI ((b : Nat)))), none, none] [] NN h) (I := fun zz => match zz with | (b, sm) => b ≤ 64 ∧ ((b : Int) * n < c ∨ flF c ds n (64 - b) (b * n) = 0 ∨ True) ∧ sm + flF c ds n (64 - b) (b * n) = flen c ds n) (fun zz => match zz with | (b, sm) => 64 - b) ?_ (0, 0) ⟨by decide, Or.inr (Or.inr trivial), by simp [flen]⟩
  rintro ⟨b, sm⟩ hI ih
  obtain ⟨i1, -, i3⟩ := hI
  have p0 : (0 : Int) ≤ b * n := Int.mul_nonneg (by omega) (by omega)
  have p1 : (b : Int) * n ≤ 64 * 64 := Int.mul_le_mul (by omega) h1 (by omega) (by omega)
  refine g_iload_n (q := 5) rfl rfl dX4_sizeInParts_4 rfl ?_
  refine g_bipush (q := 7) (by decide) dX4_sizeInParts_5 rfl ?_
  refine g_icmp_ge (t := 74) (q := 10) ⟨by omega, by omega⟩ ⟨by omega, by omega⟩ dX4_sizeInParts_7 rfl rfl (fun c7 => ?_) (fun c7 => ?_)
  · have e1 : b = 64 := by omega
    subst e1
    have e2 : sm = flen c ds n := by simpa [flF] using i3
    rw [e2]
    refine g_iload_n (q := 75) rfl rfl dX4_sizeInParts_74 rfl ?_
    exact g_ireturn (fun z => NN_f z) (Nat.le_of_ble_eq_true rfl) (Nat.le_of_ble_eq_true rfl) dX4_sizeInParts_75 rfl rP_in
  · refine g_iload_n (q := 11) rfl rfl dX4_sizeInParts_10 rfl ?_
    refine g_iload_n (q := 12) rfl rfl dX4_sizeInParts_11 rfl ?_
    refine g_imul (q := 13) dX4_sizeInParts_12 rfl ?_
    refine g_aload_n (q := 14) rfl rfl dX4_sizeInParts_13 rfl ?_
    refine g_get (q := 17) fX4_15r (by show _ < 103; omega) hP rfl dX4_sizeInParts_14 rfl ?_
    refine g_icmp_ge (t := 74) (q := 20) ⟨by omega, by omega⟩ ⟨by omega, by omega⟩ dX4_sizeInParts_17 rfl rfl (fun c17 => ?_) (fun c17 => ?_)
    · have e2 : sm = flen c ds n := by
        rw [show 64 - b = (63 - b) + 1 by omega] at i3
        unfold flF at i3
        rw [if_neg (by omega)] at i3
        omega
      rw [e2]
      refine g_iload_n (q := 75) rfl rfl dX4_sizeInParts_74 rfl ?_
      exact g_ireturn (fun z => NN_f z) (Nat.le_of_ble_eq_true rfl) (Nat.le_of_ble_eq_true rfl) dX4_sizeInParts_75 rfl rP_in
    · refine g_iload_n (q := 21) rfl rfl dX4_sizeInParts_20 rfl ?_
      refine g_iload_n (q := 22) rfl rfl dX4_sizeInParts_21 rfl ?_
      refine g_imul (q := 23) dX4_sizeInParts_22 rfl ?_
      refine g_istore (q := 25) (al2 := [some (.ref (a)), some (.int (iI (n))), some (.int (iI (sm))), some (.int (iI ((b : Nat)))), some (.int (iI (((b : Nat)) * n))), none]) (by decide) rfl rfl dX4_sizeInParts_23 rfl ?_
      refine g_iload (q := 27) rfl dX4_sizeInParts_25 rfl ?_
      refine g_iload_n (q := 28) rfl rfl dX4_sizeInParts_27 rfl ?_
      refine g_iadd (q := 29) dX4_sizeInParts_28 rfl ?_
      refine g_aload_n (q := 30) rfl rfl dX4_sizeInParts_29 rfl ?_
      refine g_get (q := 33) fX4_15r (by show _ < 103; omega) hP rfl dX4_sizeInParts_30 rfl ?_
      refine g_icmp_ge (t := 43) (q := 36) ⟨by omega, by omega⟩ ⟨by omega, by omega⟩ dX4_sizeInParts_33 rfl rfl (fun c33 => ?_) (fun c33 => ?_)
      · refine g_aload_n (q := 44) rfl rfl dX4_sizeInParts_43 rfl ?_
        refine g_get (q := 47) fX4_15r (by show _ < 103; omega) hP rfl dX4_sizeInParts_44 rfl ?_
        refine g_istore (q := 49) (al2 := [some (.ref (a)), some (.int (iI (n))), some (.int (iI (sm))), some (.int (iI ((b : Nat)))), some (.int (iI (((b : Nat)) * n))), some (.int (iI (c)))]) (by decide) rfl rfl dX4_sizeInParts_47 rfl ?_
        refine g_iload_n (q := 50) rfl rfl dX4_sizeInParts_49 rfl ?_
        refine g_iload (q := 52) rfl dX4_sizeInParts_50 rfl ?_
        refine g_iload (q := 54) rfl dX4_sizeInParts_52 rfl ?_
        refine g_isub (q := 55) dX4_sizeInParts_54 rfl ?_
        refine g_aload_n (q := 56) rfl rfl dX4_sizeInParts_55 rfl ?_
        refine g_iload (q := 58) rfl dX4_sizeInParts_56 rfl ?_
        refine g_iload (q := 60) rfl dX4_sizeInParts_58 rfl ?_
        have g0 : (b : Int) * n < c := by omega
        have g1 : c ≤ c := by omega
        have g2 := hO.wid p0 g0 g1
        refine g_Vr (q := 63) (d' := 1) (i := a) (av := [.int (iI (((b : Nat)) * n)), .int (iI (c))]) (st := [.int (iI (c - (((b : Nat)) * n))), .int (iI (sm))]) (v := .int (iI (ds (c - 1) - ds ((b : Int) * n) + 1))) kvX4_35 (t_X4_widthBetween l h a c m ds fa hA0 hO ((b : Int) * n) (c) p0 g0 g1) (by show _ < 103; omega) hP rfl (Nat.le_of_ble_eq_true rfl) ⟨(Nat.le_of_ble_eq_true rfl), (Nat.le_of_ble_eq_true rfl)⟩ ⟨(Nat.le_of_ble_eq_true rfl), (Nat.le_of_ble_eq_true rfl)⟩ rfl rfl dX4_sizeInParts_60 rfl ?_
        refine g_Sr (q := 66) (d' := 1) (av := [.int (iI (c - (((b : Nat)) * n))), .int (iI (ds (c - 1) - ds ((b : Int) * n) + 1))]) (st := [.int (iI (sm))]) (v := .int (iI (psz ds ((b : Int) * n) (c)))) ksX4_39 (t_X5_bestSize l ((c) - (b : Int) * n) (ds (c - 1) - ds ((b : Int) * n) + 1) (by omega) (by omega) g2.1 g2.2 h) rfl (Nat.le_of_ble_eq_true rfl) ⟨(Nat.le_of_ble_eq_true rfl), (Nat.le_of_ble_eq_true rfl)⟩ ⟨(Nat.le_of_ble_eq_true rfl), (Nat.le_of_ble_eq_true rfl)⟩ rfl rfl dX4_sizeInParts_63 rfl ?_
        refine g_iadd (q := 67) dX4_sizeInParts_66 rfl ?_
        refine g_istore_n (q := 68) (al2 := [some (.ref (a)), some (.int (iI (n))), some (.int (iI (sm + (psz ds ((b : Int) * n) (c))))), some (.int (iI ((b : Nat)))), some (.int (iI (((b : Nat)) * n))), some (.int (iI (c)))]) rfl (by decide) rfl rfl dX4_sizeInParts_67 rfl ?_
        refine g_iinc (q := 71) (al2 := [some (.ref (a)), some (.int (iI (n))), some (.int (iI (sm + (psz ds ((b : Int) * n) (c))))), some (.int (iI (((b : Nat)) + 1))), some (.int (iI (((b : Nat)) * n))), some (.int (iI (c)))]) rfl (by decide) rfl rfl dX4_sizeInParts_68 rfl ?_
        refine g_goto (q := 4) dX4_sizeInParts_71 rfl ?_
        refine g_drop (al2 := [some (.ref (a)), some (.int (iI (n))), some (.int (iI (sm + (psz ds ((b : Int) * n) (c))))), some (.int (iI (((b : Nat)) + 1))), none, some (.int (iI (c)))]) 4 rfl ?_
        refine g_drop (al2 := [some (.ref (a)), some (.int (iI (n))), some (.int (iI (sm + (psz ds ((b : Int) * n) (c))))), some (.int (iI (((b : Nat)) + 1))), none, none]) 5 rfl ?_
        exact ih (b + 1, sm + psz ds ((b : Int) * n) (c)) ⟨show b + 1 ≤ 64 by omega, Or.inr (Or.inr trivial), by
          rw [show 64 - b = (64 - (b + 1)) + 1 by omega] at i3
          unfold flF at i3
          rw [if_pos (by omega), if_neg (by omega)] at i3
          rw [show (((b + 1 : Nat) : Int)) * n = (b : Int) * n + n by rw [Int.natCast_add, Int.add_mul]; simp]
          omega⟩ (show 64 - (b + 1) < 64 - b by omega)
      · refine g_iload (q := 38) rfl dX4_sizeInParts_36 rfl ?_
        refine g_iload_n (q := 39) rfl rfl dX4_sizeInParts_38 rfl ?_
        refine g_iadd (q := 40) dX4_sizeInParts_39 rfl ?_
        refine g_goto (q := 47) dX4_sizeInParts_40 rfl ?_
        refine g_istore (q := 49) (al2 := [some (.ref (a)), some (.int (iI (n))), some (.int (iI (sm))), some (.int (iI ((b : Nat)))), some (.int (iI (((b : Nat)) * n))), some (.int (iI ((((b : Nat)) * n) + n)))]) (by decide) rfl rfl dX4_sizeInParts_47 rfl ?_
        refine g_iload_n (q := 50) rfl rfl dX4_sizeInParts_49 rfl ?_
        refine g_iload (q := 52) rfl dX4_sizeInParts_50 rfl ?_
        refine g_iload (q := 54) rfl dX4_sizeInParts_52 rfl ?_
        refine g_isub (q := 55) dX4_sizeInParts_54 rfl ?_
        refine g_aload_n (q := 56) rfl rfl dX4_sizeInParts_55 rfl ?_
        refine g_iload (q := 58) rfl dX4_sizeInParts_56 rfl ?_
        refine g_iload (q := 60) rfl dX4_sizeInParts_58 rfl ?_
        have g0 : (b : Int) * n < (b : Int) * n + n := by omega
        have g1 : (b : Int) * n + n ≤ c := by omega
        have g2 := hO.wid p0 g0 g1
        refine g_Vr (q := 63) (d' := 1) (i := a) (av := [.int (iI (((b : Nat)) * n)), .int (iI ((((b : Nat)) * n) + n))]) (st := [.int (iI (((((b : Nat)) * n) + n) - (((b : Nat)) * n))), .int (iI (sm))]) (v := .int (iI (ds ((b : Int) * n + n - 1) - ds ((b : Int) * n) + 1))) kvX4_35 (t_X4_widthBetween l h a c m ds fa hA0 hO ((b : Int) * n) ((b : Int) * n + n) p0 g0 g1) (by show _ < 103; omega) hP rfl (Nat.le_of_ble_eq_true rfl) ⟨(Nat.le_of_ble_eq_true rfl), (Nat.le_of_ble_eq_true rfl)⟩ ⟨(Nat.le_of_ble_eq_true rfl), (Nat.le_of_ble_eq_true rfl)⟩ rfl rfl dX4_sizeInParts_60 rfl ?_
        refine g_Sr (q := 66) (d' := 1) (av := [.int (iI (((((b : Nat)) * n) + n) - (((b : Nat)) * n))), .int (iI (ds ((b : Int) * n + n - 1) - ds ((b : Int) * n) + 1))]) (st := [.int (iI (sm))]) (v := .int (iI (psz ds ((b : Int) * n) ((b : Int) * n + n)))) ksX4_39 (t_X5_bestSize l (((b : Int) * n + n) - (b : Int) * n) (ds ((b : Int) * n + n - 1) - ds ((b : Int) * n) + 1) (by omega) (by omega) g2.1 g2.2 h) rfl (Nat.le_of_ble_eq_true rfl) ⟨(Nat.le_of_ble_eq_true rfl), (Nat.le_of_ble_eq_true rfl)⟩ ⟨(Nat.le_of_ble_eq_true rfl), (Nat.le_of_ble_eq_true rfl)⟩ rfl rfl dX4_sizeInParts_63 rfl ?_
        refine g_iadd (q := 67) dX4_sizeInParts_66 rfl ?_
        refine g_istore_n (q := 68) (al2 := [some (.ref (a)), some (.int (iI (n))), some (.int (iI (sm + (psz ds ((b : Int) * n) ((b : Int) * n + n))))), some (.int (iI ((b : Nat)))), some (.int (iI (((b : Nat)) * n))), some (.int (iI ((((b : Nat)) * n) + n)))]) rfl (by decide) rfl rfl dX4_sizeInParts_67 rfl ?_
        refine g_iinc (q := 71) (al2 := [some (.ref (a)), some (.int (iI (n))), some (.int (iI (sm + (psz ds ((b : Int) * n) ((b : Int) * n + n))))), some (.int (iI (((b : Nat)) + 1))), some (.int (iI (((b : Nat)) * n))), some (.int (iI ((((b : Nat)) * n) + n)))]) rfl (by decide) rfl rfl dX4_sizeInParts_68 rfl ?_
        refine g_goto (q := 4) dX4_sizeInParts_71 rfl ?_
        refine g_drop (al2 := [some (.ref (a)), some (.int (iI (n))), some (.int (iI (sm + (psz ds ((b : Int) * n) ((b : Int) * n + n))))), some (.int (iI (((b : Nat)) + 1))), none, some (.int (iI ((((b : Nat)) * n) + n)))]) 4 rfl ?_
        refine g_drop (al2 := [some (.ref (a)), some (.int (iI (n))), some (.int (iI (sm + (psz ds ((b : Int) * n) ((b : Int) * n + n))))), some (.int (iI (((b : Nat)) + 1))), none, none]) 5 rfl ?_
        exact ih (b + 1, sm + psz ds ((b : Int) * n) ((b : Int) * n + n)) ⟨show b + 1 ≤ 64 by omega, Or.inr (Or.inr trivial), by
          rw [show 64 - b = (64 - (b + 1)) + 1 by omega] at i3
          unfold flF at i3
          rw [if_pos (by omega), if_pos (by omega)] at i3
          rw [show (((b + 1 : Nat) : Int)) * n = (b : Int) * n + n by rw [Int.natCast_add, Int.add_mul]; simp]
          omega⟩ (show 64 - (b + 1) < 64 - b by omega)
