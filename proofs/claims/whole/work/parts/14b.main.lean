/-! ===== MonotonePostings: checks, recode, writeResult ===== -/
set_option maxRecDepth 4000 in
theorem t_X7_requireIndex (l : Launch) (h : EHp) (i n : Int) (hi : IR i) (hn : IR n) (h0 : 0 ≤ i) (h1 : i < n) : CT l mX7_requireIndex 6 0 0 [.int (iI (i)), .int (iI (n))] NN h (vP (fun h' => h' = h)) := by
  refine CT.of (by decide) (Nat.le_of_ble_eq_true rfl) ?_
  refine g_al (al2 := [some (.int (iI (i))), some (.int (iI (n)))]) rfl ?_
  refine g_iload_n (q := 1) rfl rfl dX7_requireIndex_0 rfl ?_
  refine g_if_lt (t := 9) (q := 4) hi dX7_requireIndex_1 rfl rfl (fun c1 => ?_) (fun c1 => ?_)
  · omega
  · refine g_iload_n (q := 5) rfl rfl dX7_requireIndex_4 rfl ?_
    refine g_iload_n (q := 6) rfl rfl dX7_requireIndex_5 rfl ?_
    refine g_icmp_lt (t := 19) (q := 9) hi hn dX7_requireIndex_6 rfl rfl (fun c6 => ?_) (fun c6 => ?_)
    · exact g_vreturn (fun z => NN_f z) (Nat.le_of_ble_eq_true rfl) (Nat.le_of_ble_eq_true rfl) dX7_requireIndex_19 rfl (vP_in rfl)
    · omega
set_option maxRecDepth 4000 in
theorem x_X7_requireIndex (l : Launch) (h : EHp) (i n : Int) (hi : IR i) (hn : IR n) (h0 : i < 0 ∨ n ≤ i) : CT l mX7_requireIndex 6 1 6 [.int (iI (i)), .int (iI (n))] NN h (xP eIO (fun h' => h' = h)) := by
  refine CT.of (by decide) (Nat.le_of_ble_eq_true rfl) ?_
  refine g_al (al2 := [some (.int (iI (i))), some (.int (iI (n)))]) rfl ?_
  refine g_iload_n (q := 1) rfl rfl dX7_requireIndex_0 rfl ?_
  refine g_if_lt (t := 9) (q := 4) hi dX7_requireIndex_1 rfl rfl (fun c1 => ?_) (fun c1 => ?_)
  · exact g_throw th_IO rfl rfl rfl (xP_in rfl) (Nat.le_of_ble_eq_true rfl) (Nat.le_of_ble_eq_true rfl) (Nat.le_of_ble_eq_true rfl) (Nat.le_of_ble_eq_true rfl) dX7_requireIndex_9 dX7_requireIndex_12 dX7_requireIndex_13 dX7_requireIndex_15 dX7_requireIndex_18
  · refine g_iload_n (q := 5) rfl rfl dX7_requireIndex_4 rfl ?_
    refine g_iload_n (q := 6) rfl rfl dX7_requireIndex_5 rfl ?_
    refine g_icmp_lt (t := 19) (q := 9) hi hn dX7_requireIndex_6 rfl rfl (fun c6 => ?_) (fun c6 => ?_)
    · omega
    · exact g_throw th_IO rfl rfl rfl (xP_in rfl) (Nat.le_of_ble_eq_true rfl) (Nat.le_of_ble_eq_true rfl) (Nat.le_of_ble_eq_true rfl) (Nat.le_of_ble_eq_true rfl) dX7_requireIndex_9 dX7_requireIndex_12 dX7_requireIndex_13 dX7_requireIndex_15 dX7_requireIndex_18
set_option maxRecDepth 4000 in
theorem t_X7_requireBetween (l : Launch) (h : EHp) (v lo up : Int) (hv : IR v) (hlo : IR lo) (hup : IR up) (h0 : lo ≤ v) (h1 : v ≤ up) : CT l mX7_requireBetween 6 0 0 [.int (iI (v)), .int (iI (lo)), .int (iI (up))] NN h (vP (fun h' => h' = h)) := by
  refine CT.of (by decide) (Nat.le_of_ble_eq_true rfl) ?_
  refine g_al (al2 := [some (.int (iI (v))), some (.int (iI (lo))), some (.int (iI (up)))]) rfl ?_
  refine g_iload_n (q := 1) rfl rfl dX7_requireBetween_0 rfl ?_
  refine g_iload_n (q := 2) rfl rfl dX7_requireBetween_1 rfl ?_
  refine g_icmp_lt (t := 10) (q := 5) hv hlo dX7_requireBetween_2 rfl rfl (fun c2 => ?_) (fun c2 => ?_)
  · omega
  · refine g_iload_n (q := 6) rfl rfl dX7_requireBetween_5 rfl ?_
    refine g_iload_n (q := 7) rfl rfl dX7_requireBetween_6 rfl ?_
    refine g_icmp_le (t := 20) (q := 10) hv hup dX7_requireBetween_7 rfl rfl (fun c7 => ?_) (fun c7 => ?_)
    · exact g_vreturn (fun z => NN_f z) (Nat.le_of_ble_eq_true rfl) (Nat.le_of_ble_eq_true rfl) dX7_requireBetween_20 rfl (vP_in rfl)
    · omega
set_option maxRecDepth 4000 in
theorem x_X7_requireBetween (l : Launch) (h : EHp) (v lo up : Int) (hv : IR v) (hlo : IR lo) (hup : IR up) (h0 : v < lo ∨ up < v) : CT l mX7_requireBetween 6 1 6 [.int (iI (v)), .int (iI (lo)), .int (iI (up))] NN h (xP eIA (fun h' => h' = h)) := by
  refine CT.of (by decide) (Nat.le_of_ble_eq_true rfl) ?_
  refine g_al (al2 := [some (.int (iI (v))), some (.int (iI (lo))), some (.int (iI (up)))]) rfl ?_
  refine g_iload_n (q := 1) rfl rfl dX7_requireBetween_0 rfl ?_
  refine g_iload_n (q := 2) rfl rfl dX7_requireBetween_1 rfl ?_
  refine g_icmp_lt (t := 10) (q := 5) hv hlo dX7_requireBetween_2 rfl rfl (fun c2 => ?_) (fun c2 => ?_)
  · exact g_throw th_IA1 rfl rfl rfl (xP_in rfl) (Nat.le_of_ble_eq_true rfl) (Nat.le_of_ble_eq_true rfl) (Nat.le_of_ble_eq_true rfl) (Nat.le_of_ble_eq_true rfl) dX7_requireBetween_10 dX7_requireBetween_13 dX7_requireBetween_14 dX7_requireBetween_16 dX7_requireBetween_19
  · refine g_iload_n (q := 6) rfl rfl dX7_requireBetween_5 rfl ?_
    refine g_iload_n (q := 7) rfl rfl dX7_requireBetween_6 rfl ?_
    refine g_icmp_le (t := 20) (q := 10) hv hup dX7_requireBetween_7 rfl rfl (fun c7 => ?_) (fun c7 => ?_)
    · omega
    · exact g_throw th_IA1 rfl rfl rfl (xP_in rfl) (Nat.le_of_ble_eq_true rfl) (Nat.le_of_ble_eq_true rfl) (Nat.le_of_ble_eq_true rfl) (Nat.le_of_ble_eq_true rfl) dX7_requireBetween_10 dX7_requireBetween_13 dX7_requireBetween_14 dX7_requireBetween_16 dX7_requireBetween_19
set_option maxRecDepth 4000 in
theorem t_X7_requireList (l : Launch) (h : EHp) (i : Int) (h0 : 0 ≤ i) (h1 : i < 4) : CT l mX7_requireList 7 0 0 [.int (iI (i))] NN h (vP (fun h' => h' = h)) := by
  refine CT.of (by decide) (Nat.le_of_ble_eq_true rfl) ?_
  refine g_al (al2 := [some (.int (iI (i)))]) rfl ?_
  refine g_iload_n (q := 1) rfl rfl dX7_requireList_0 rfl ?_
  refine g_iconst (q := 2) dX7_requireList_1 rfl ?_
  refine g_Sv (q := 5) (d' := 6) (av := [.int (iI (i)), .int (iI (4))]) (st := []) ksX7_93 (t_X7_requireIndex l h i 4 ⟨by omega, by omega⟩ (by decide) h0 h1) rfl (Nat.le_of_ble_eq_true rfl) ⟨(Nat.le_of_ble_eq_true rfl), (Nat.le_of_ble_eq_true rfl)⟩ ⟨(Nat.le_of_ble_eq_true rfl), (Nat.le_of_ble_eq_true rfl)⟩ rfl rfl dX7_requireList_2 rfl (fun hq1 eq2 => ?_)
  rw [eq2]
  exact g_vreturn (fun z => NN_f z) (Nat.le_of_ble_eq_true rfl) (Nat.le_of_ble_eq_true rfl) dX7_requireList_5 rfl (vP_in rfl)
set_option maxRecDepth 4000 in
theorem x_X7_requireList (l : Launch) (h : EHp) (i : Int) (hi : IR i) (h0 : i < 0 ∨ 4 ≤ i) : CT l mX7_requireList 7 1 6 [.int (iI (i))] NN h (xP eIO (fun h' => h' = h)) := by
  refine CT.of (by decide) (Nat.le_of_ble_eq_true rfl) ?_
  refine g_al (al2 := [some (.int (iI (i)))]) rfl ?_
  refine g_iload_n (q := 1) rfl rfl dX7_requireList_0 rfl ?_
  refine g_iconst (q := 2) dX7_requireList_1 rfl ?_
  exact g_Sx (d' := 6) (av := [.int (iI (i)), .int (iI (4))]) (st := []) ksX7_93 (x_X7_requireIndex l h i 4 hi (by decide) h0) rfl (Nat.le_of_ble_eq_true rfl) ⟨(Nat.le_of_ble_eq_true rfl), (Nat.le_of_ble_eq_true rfl)⟩ ⟨(Nat.le_of_ble_eq_true rfl), (Nat.le_of_ble_eq_true rfl)⟩ rfl rfl dX7_requireList_2 (fun h2 z => xP_in z)
set_option maxRecDepth 4000 in
theorem t_X7_requireSet (l : Launch) (h : EHp) (i : Int) (h0 : 1 ≤ i) (h1 : i ≤ 15) : CT l mX7_requireSet 7 0 0 [.int (iI (i))] NN h (vP (fun h' => h' = h)) := by
  refine CT.of (by decide) (Nat.le_of_ble_eq_true rfl) ?_
  refine g_al (al2 := [some (.int (iI (i)))]) rfl ?_
  refine g_iload_n (q := 1) rfl rfl dX7_requireSet_0 rfl ?_
  refine g_iconst (q := 2) dX7_requireSet_1 rfl ?_
  refine g_bipush (q := 4) (by decide) dX7_requireSet_2 rfl ?_
  refine g_Sv (q := 7) (d' := 6) (av := [.int (iI (i)), .int (iI (1)), .int (iI (15))]) (st := []) ksX7_101 (t_X7_requireBetween l h i 1 15 ⟨by omega, by omega⟩ (by decide) (by decide) h0 h1) rfl (Nat.le_of_ble_eq_true rfl) ⟨(Nat.le_of_ble_eq_true rfl), (Nat.le_of_ble_eq_true rfl)⟩ ⟨(Nat.le_of_ble_eq_true rfl), (Nat.le_of_ble_eq_true rfl)⟩ rfl rfl dX7_requireSet_4 rfl (fun hq1 eq2 => ?_)
  rw [eq2]
  exact g_vreturn (fun z => NN_f z) (Nat.le_of_ble_eq_true rfl) (Nat.le_of_ble_eq_true rfl) dX7_requireSet_7 rfl (vP_in rfl)
set_option maxRecDepth 4000 in
theorem x_X7_requireSet (l : Launch) (h : EHp) (i : Int) (hi : IR i) (h0 : i < 1 ∨ 15 < i) : CT l mX7_requireSet 7 1 6 [.int (iI (i))] NN h (xP eIA (fun h' => h' = h)) := by
  refine CT.of (by decide) (Nat.le_of_ble_eq_true rfl) ?_
  refine g_al (al2 := [some (.int (iI (i)))]) rfl ?_
  refine g_iload_n (q := 1) rfl rfl dX7_requireSet_0 rfl ?_
  refine g_iconst (q := 2) dX7_requireSet_1 rfl ?_
  refine g_bipush (q := 4) (by decide) dX7_requireSet_2 rfl ?_
  exact g_Sx (d' := 6) (av := [.int (iI (i)), .int (iI (1)), .int (iI (15))]) (st := []) ksX7_101 (x_X7_requireBetween l h i 1 15 hi (by decide) (by decide) h0) rfl (Nat.le_of_ble_eq_true rfl) ⟨(Nat.le_of_ble_eq_true rfl), (Nat.le_of_ble_eq_true rfl)⟩ ⟨(Nat.le_of_ble_eq_true rfl), (Nat.le_of_ble_eq_true rfl)⟩ rfl rfl dX7_requireSet_4 (fun h2 z => xP_in z)
set_option maxRecDepth 4000 in
theorem t_X7_requireRange (l : Launch) (h : EHp) (f s n : Int) (h1 : 0 ≤ f ∧ f ≤ 511) (h2 : 1 ≤ s ∧ s ≤ 511) (h3 : 1 ≤ n ∧ n ≤ 64) (h4 : f + s * (n - 1) ≤ 511) : CT l mX7_requireRange 7 0 0 [.int (iI (f)), .int (iI (s)), .int (iI (n))] NN h (vP (fun h' => h' = h)) := by
  have p0 : 0 ≤ s * (n - 1) := Int.mul_nonneg (by omega) (by omega)
  refine CT.of (by decide) (Nat.le_of_ble_eq_true rfl) ?_
  refine g_al (al2 := [some (.int (iI (f))), some (.int (iI (s))), some (.int (iI (n)))]) rfl ?_
  refine g_iload_n (q := 1) rfl rfl dX7_requireRange_0 rfl ?_
  refine g_iconst (q := 2) dX7_requireRange_1 rfl ?_
  refine g_sipush (q := 5) (by decide) dX7_requireRange_2 rfl ?_
  refine g_Sv (q := 8) (d' := 6) (av := [.int (iI (f)), .int (iI (0)), .int (iI (511))]) (st := []) ksX7_101 (t_X7_requireBetween l h f 0 511 ⟨by omega, by omega⟩ (by decide) (by decide) h1.1 h1.2) rfl (Nat.le_of_ble_eq_true rfl) ⟨(Nat.le_of_ble_eq_true rfl), (Nat.le_of_ble_eq_true rfl)⟩ ⟨(Nat.le_of_ble_eq_true rfl), (Nat.le_of_ble_eq_true rfl)⟩ rfl rfl dX7_requireRange_5 rfl (fun hq1 eq2 => ?_)
  rw [eq2]
  refine g_iload_n (q := 9) rfl rfl dX7_requireRange_8 rfl ?_
  refine g_iconst (q := 10) dX7_requireRange_9 rfl ?_
  refine g_sipush (q := 13) (by decide) dX7_requireRange_10 rfl ?_
  refine g_Sv (q := 16) (d' := 6) (av := [.int (iI (s)), .int (iI (1)), .int (iI (511))]) (st := []) ksX7_101 (t_X7_requireBetween l h s 1 511 ⟨by omega, by omega⟩ (by decide) (by decide) h2.1 h2.2) rfl (Nat.le_of_ble_eq_true rfl) ⟨(Nat.le_of_ble_eq_true rfl), (Nat.le_of_ble_eq_true rfl)⟩ ⟨(Nat.le_of_ble_eq_true rfl), (Nat.le_of_ble_eq_true rfl)⟩ rfl rfl dX7_requireRange_13 rfl (fun hq3 eq4 => ?_)
  rw [eq4]
  refine g_iload_n (q := 17) rfl rfl dX7_requireRange_16 rfl ?_
  refine g_iconst (q := 18) dX7_requireRange_17 rfl ?_
  refine g_bipush (q := 20) (by decide) dX7_requireRange_18 rfl ?_
  refine g_Sv (q := 23) (d' := 6) (av := [.int (iI (n)), .int (iI (1)), .int (iI (64))]) (st := []) ksX7_101 (t_X7_requireBetween l h n 1 64 ⟨by omega, by omega⟩ (by decide) (by decide) h3.1 h3.2) rfl (Nat.le_of_ble_eq_true rfl) ⟨(Nat.le_of_ble_eq_true rfl), (Nat.le_of_ble_eq_true rfl)⟩ ⟨(Nat.le_of_ble_eq_true rfl), (Nat.le_of_ble_eq_true rfl)⟩ rfl rfl dX7_requireRange_20 rfl (fun hq5 eq6 => ?_)
  rw [eq6]
  refine g_iload_n (q := 24) rfl rfl dX7_requireRange_23 rfl ?_
  refine g_iload_n (q := 25) rfl rfl dX7_requireRange_24 rfl ?_
  refine g_iload_n (q := 26) rfl rfl dX7_requireRange_25 rfl ?_
  refine g_iconst (q := 27) dX7_requireRange_26 rfl ?_
  refine g_isub (q := 28) dX7_requireRange_27 rfl ?_
  refine g_imul (q := 29) dX7_requireRange_28 rfl ?_
  refine g_iadd (q := 30) dX7_requireRange_29 rfl ?_
  refine g_iconst (q := 31) dX7_requireRange_30 rfl ?_
  refine g_sipush (q := 34) (by decide) dX7_requireRange_31 rfl ?_
  refine g_Sv (q := 37) (d' := 6) (av := [.int (iI (f + (s * (n - 1)))), .int (iI (0)), .int (iI (511))]) (st := []) ksX7_101 (t_X7_requireBetween l h (f + s * (n - 1)) 0 511 ⟨by omega, by omega⟩ (by decide) (by decide) (by omega) h4) rfl (Nat.le_of_ble_eq_true rfl) ⟨(Nat.le_of_ble_eq_true rfl), (Nat.le_of_ble_eq_true rfl)⟩ ⟨(Nat.le_of_ble_eq_true rfl), (Nat.le_of_ble_eq_true rfl)⟩ rfl rfl dX7_requireRange_34 rfl (fun hq7 eq8 => ?_)
  rw [eq8]
  exact g_vreturn (fun z => NN_f z) (Nat.le_of_ble_eq_true rfl) (Nat.le_of_ble_eq_true rfl) dX7_requireRange_37 rfl (vP_in rfl)
set_option maxRecDepth 4000 in
theorem x_X7_requireRange (l : Launch) (h : EHp) (f s n : Int) (hf : IR f) (hs : IR s) (hn : IR n) (hx : ¬ ((0 ≤ f ∧ f ≤ 511) ∧ (1 ≤ s ∧ s ≤ 511) ∧ (1 ≤ n ∧ n ≤ 64) ∧ f + s * (n - 1) ≤ 511)) : CT l mX7_requireRange 7 1 6 [.int (iI (f)), .int (iI (s)), .int (iI (n))] NN h (xP eIA (fun h' => h' = h)) := by
  refine CT.of (by decide) (Nat.le_of_ble_eq_true rfl) ?_
  refine g_al (al2 := [some (.int (iI (f))), some (.int (iI (s))), some (.int (iI (n)))]) rfl ?_
  refine g_iload_n (q := 1) rfl rfl dX7_requireRange_0 rfl ?_
  refine g_iconst (q := 2) dX7_requireRange_1 rfl ?_
  refine g_sipush (q := 5) (by decide) dX7_requireRange_2 rfl ?_
  by_cases a1 : 0 ≤ f ∧ f ≤ 511
  · refine g_Sv (q := 8) (d' := 6) (av := [.int (iI (f)), .int (iI (0)), .int (iI (511))]) (st := []) ksX7_101 (t_X7_requireBetween l h f 0 511 hf (by decide) (by decide) a1.1 a1.2) rfl (Nat.le_of_ble_eq_true rfl) ⟨(Nat.le_of_ble_eq_true rfl), (Nat.le_of_ble_eq_true rfl)⟩ ⟨(Nat.le_of_ble_eq_true rfl), (Nat.le_of_ble_eq_true rfl)⟩ rfl rfl dX7_requireRange_5 rfl (fun hq1 eq2 => ?_)
    rw [eq2]
    refine g_iload_n (q := 9) rfl rfl dX7_requireRange_8 rfl ?_
    refine g_iconst (q := 10) dX7_requireRange_9 rfl ?_
    refine g_sipush (q := 13) (by decide) dX7_requireRange_10 rfl ?_
    by_cases a2 : 1 ≤ s ∧ s ≤ 511
    · refine g_Sv (q := 16) (d' := 6) (av := [.int (iI (s)), .int (iI (1)), .int (iI (511))]) (st := []) ksX7_101 (t_X7_requireBetween l h s 1 511 hs (by decide) (by decide) a2.1 a2.2) rfl (Nat.le_of_ble_eq_true rfl) ⟨(Nat.le_of_ble_eq_true rfl), (Nat.le_of_ble_eq_true rfl)⟩ ⟨(Nat.le_of_ble_eq_true rfl), (Nat.le_of_ble_eq_true rfl)⟩ rfl rfl dX7_requireRange_13 rfl (fun hq3 eq4 => ?_)
      rw [eq4]
      refine g_iload_n (q := 17) rfl rfl dX7_requireRange_16 rfl ?_
      refine g_iconst (q := 18) dX7_requireRange_17 rfl ?_
      refine g_bipush (q := 20) (by decide) dX7_requireRange_18 rfl ?_
      by_cases a3 : 1 ≤ n ∧ n ≤ 64
      · refine g_Sv (q := 23) (d' := 6) (av := [.int (iI (n)), .int (iI (1)), .int (iI (64))]) (st := []) ksX7_101 (t_X7_requireBetween l h n 1 64 hn (by decide) (by decide) a3.1 a3.2) rfl (Nat.le_of_ble_eq_true rfl) ⟨(Nat.le_of_ble_eq_true rfl), (Nat.le_of_ble_eq_true rfl)⟩ ⟨(Nat.le_of_ble_eq_true rfl), (Nat.le_of_ble_eq_true rfl)⟩ rfl rfl dX7_requireRange_20 rfl (fun hq5 eq6 => ?_)
        rw [eq6]
        refine g_iload_n (q := 24) rfl rfl dX7_requireRange_23 rfl ?_
        refine g_iload_n (q := 25) rfl rfl dX7_requireRange_24 rfl ?_
        refine g_iload_n (q := 26) rfl rfl dX7_requireRange_25 rfl ?_
        refine g_iconst (q := 27) dX7_requireRange_26 rfl ?_
        refine g_isub (q := 28) dX7_requireRange_27 rfl ?_
        refine g_imul (q := 29) dX7_requireRange_28 rfl ?_
        refine g_iadd (q := 30) dX7_requireRange_29 rfl ?_
        refine g_iconst (q := 31) dX7_requireRange_30 rfl ?_
        refine g_sipush (q := 34) (by decide) dX7_requireRange_31 rfl ?_
        have p0 : 0 ≤ s * (n - 1) := Int.mul_nonneg (by omega) (by omega)
        have p1 : s * (n - 1) ≤ 511 * 63 := Int.mul_le_mul (by omega) (by omega) (by omega) (by omega)
        exact g_Sx (d' := 6) (av := [.int (iI (f + (s * (n - 1)))), .int (iI (0)), .int (iI (511))]) (st := []) ksX7_101 (x_X7_requireBetween l h (f + s * (n - 1)) 0 511 ⟨by omega, by omega⟩ (by decide) (by decide) (Or.inr (by
              rcases Int.lt_or_le 511 (f + s * (n - 1)) with z | z
              · exact z
              · exact absurd ⟨a1, a2, a3, z⟩ hx))) rfl (Nat.le_of_ble_eq_true rfl) ⟨(Nat.le_of_ble_eq_true rfl), (Nat.le_of_ble_eq_true rfl)⟩ ⟨(Nat.le_of_ble_eq_true rfl), (Nat.le_of_ble_eq_true rfl)⟩ rfl rfl dX7_requireRange_34 (fun h2 z => xP_in z)
      · exact g_Sx (d' := 6) (av := [.int (iI (n)), .int (iI (1)), .int (iI (64))]) (st := []) ksX7_101 (x_X7_requireBetween l h n 1 64 hn (by decide) (by decide) (by omega)) rfl (Nat.le_of_ble_eq_true rfl) ⟨(Nat.le_of_ble_eq_true rfl), (Nat.le_of_ble_eq_true rfl)⟩ ⟨(Nat.le_of_ble_eq_true rfl), (Nat.le_of_ble_eq_true rfl)⟩ rfl rfl dX7_requireRange_20 (fun h2 z => xP_in z)
    · exact g_Sx (d' := 6) (av := [.int (iI (s)), .int (iI (1)), .int (iI (511))]) (st := []) ksX7_101 (x_X7_requireBetween l h s 1 511 hs (by decide) (by decide) (by omega)) rfl (Nat.le_of_ble_eq_true rfl) ⟨(Nat.le_of_ble_eq_true rfl), (Nat.le_of_ble_eq_true rfl)⟩ ⟨(Nat.le_of_ble_eq_true rfl), (Nat.le_of_ble_eq_true rfl)⟩ rfl rfl dX7_requireRange_13 (fun h2 z => xP_in z)
  · exact g_Sx (d' := 6) (av := [.int (iI (f)), .int (iI (0)), .int (iI (511))]) (st := []) ksX7_101 (x_X7_requireBetween l h f 0 511 hf (by decide) (by decide) (by omega)) rfl (Nat.le_of_ble_eq_true rfl) ⟨(Nat.le_of_ble_eq_true rfl), (Nat.le_of_ble_eq_true rfl)⟩ ⟨(Nat.le_of_ble_eq_true rfl), (Nat.le_of_ble_eq_true rfl)⟩ rfl rfl dX7_requireRange_5 (fun h2 z => xP_in z)
set_option maxRecDepth 4000 in
theorem t_X7_listAt (l : Launch) (h : EHp) (S : ASt) (sv : List ASt) (hC : CRep h S sv) (i : Nat) (hi : i < 4) : CT l mX7_listAt 8 0 0 [.ref (0), .int (iI (i))] NN h (rP (.ref (5 + 3 * i)) h) := by
  obtain ⟨g0, k1, k2, k4, k5, -⟩ := id hC
  have er : lref 1 (i : Int) = some (5 + 3 * i) := by unfold lref; rw [if_pos (by omega), Int.toNat_natCast]
  refine CT.of (by decide) (Nat.le_of_ble_eq_true rfl) ?_
  refine g_al (al2 := [some (.ref (0)), some (.int (iI (i)))]) rfl ?_
  refine g_iload_n (q := 1) rfl rfl dX7_listAt_0 rfl ?_
  refine g_Sv (q := 4) (d' := 7) (av := [.int (iI (i))]) (st := []) ksX7_126 (t_X7_requireList l h i (by omega) (by omega)) rfl (Nat.le_of_ble_eq_true rfl) ⟨(Nat.le_of_ble_eq_true rfl), (Nat.le_of_ble_eq_true rfl)⟩ ⟨(Nat.le_of_ble_eq_true rfl), (Nat.le_of_ble_eq_true rfl)⟩ rfl rfl dX7_listAt_1 rfl (fun hq1 eq2 => ?_)
  rw [eq2]
  refine g_aload_n (q := 5) rfl rfl dX7_listAt_4 rfl ?_
  refine g_get (q := 8) fX7_12r (by decide) g0 rfl dX7_listAt_5 rfl ?_
  refine g_get (q := 11) fX7_177r (by decide) k1 rfl dX7_listAt_8 rfl ?_
  refine g_iload_n (q := 12) rfl rfl dX7_listAt_11 rfl ?_
  refine g_aaload (q := 13) (by decide) k2 (Or.inl rfl) (by omega) (by omega) (by decide) er dX7_listAt_12 rfl ?_
  exact g_areturn (fun z => NN_f z) (Nat.le_of_ble_eq_true rfl) (Nat.le_of_ble_eq_true rfl) dX7_listAt_13 rfl rP_in
set_option maxRecDepth 4000 in
theorem x_X7_listAt (l : Launch) (h : EHp) (i : Int) (hi : IR i) (h0 : i < 0 ∨ 4 ≤ i) : CT l mX7_listAt 8 1 6 [.ref (0), .int (iI (i))] NN h (xP eIO (fun h' => h' = h)) := by
  refine CT.of (by decide) (Nat.le_of_ble_eq_true rfl) ?_
  refine g_al (al2 := [some (.ref (0)), some (.int (iI (i)))]) rfl ?_
  refine g_iload_n (q := 1) rfl rfl dX7_listAt_0 rfl ?_
  exact g_Sx (d' := 7) (av := [.int (iI (i))]) (st := []) ksX7_126 (x_X7_requireList l h i hi h0) rfl (Nat.le_of_ble_eq_true rfl) ⟨(Nat.le_of_ble_eq_true rfl), (Nat.le_of_ble_eq_true rfl)⟩ ⟨(Nat.le_of_ble_eq_true rfl), (Nat.le_of_ble_eq_true rfl)⟩ rfl rfl dX7_listAt_1 (fun h2 z => xP_in z)
set_option maxRecDepth 4000 in
theorem t_X7_recode (l : Launch) (h : EHp) (S : ASt) (sv : List ASt) (i : Nat) (hi : i < 4) (c m : Int) (ds fa f : Int → Int) (hC : CM h S sv (fun j => j ≠ i)) (hA : PA h (5 + 3 * i) c m ds fa) (hO : LOk c f) (hag : Ag c ds f) : CT l mX7_recode 4 0 0 [.ref (0), .int (iI (i))] NN h (vP (fun h' => CRep h' (wrL S i c f) sv ∧ FrC h h')) := by
  obtain ⟨g0, k1, k2, k4, k5, ⟨nx, g5⟩, ⟨Ws, Es, g6, g7, g8⟩, ⟨len, bs, g9, g10, g11⟩, ⟨od, g12⟩, ⟨rs, g13⟩⟩ := hC
  have er : lref 1 (i : Int) = some (5 + 3 * i) := by unfold lref; rw [if_pos (by omega), Int.toNat_natCast]
  obtain ⟨ka, kb, -⟩ := id k4
  refine CT.of (by decide) (Nat.le_of_ble_eq_true rfl) ?_
  refine g_al (al2 := [some (.ref (0)), some (.int (iI (i)))]) rfl ?_
  refine g_aload_n (q := 1) rfl rfl dX7_recode_0 rfl ?_
  refine g_get (q := 4) fX7_26r (by decide) g0 rfl dX7_recode_1 rfl ?_
  refine g_aload_n (q := 5) rfl rfl dX7_recode_4 rfl ?_
  refine g_get (q := 8) fX7_12r (by decide) g0 rfl dX7_recode_5 rfl ?_
  refine g_get (q := 11) fX7_177r (by decide) k1 rfl dX7_recode_8 rfl ?_
  refine g_iload_n (q := 12) rfl rfl dX7_recode_11 rfl ?_
  refine g_aaload (q := 13) (by decide) k2 (Or.inl rfl) (by omega) (by omega) (by decide) er dX7_recode_12 rfl ?_
  refine g_Vv (q := 16) (d' := 3) (i := 83) (av := [.ref (5 + 3 * i)]) (st := []) kvX7_200 (t_X3_divide l h 83 (5 + 3 * i) c m ds fa Ws Es hA (ag_LOk hag hO) g6 g7 g8 (by decide) (by omega)) (by decide) g6 rfl (Nat.le_of_ble_eq_true rfl) ⟨(Nat.le_of_ble_eq_true rfl), (Nat.le_of_ble_eq_true rfl)⟩ ⟨(Nat.le_of_ble_eq_true rfl), (Nat.le_of_ble_eq_true rfl)⟩ rfl rfl dX7_recode_13 rfl (fun h1 hp => ?_)
  obtain ⟨m1, fa1, Ws1, Es1, hA1, hF1, q1, q2, fr1⟩ := hp
  have e0 : h1 0 = _ := (fr1 0 (by omega) (by decide) (by decide)).trans g0
  have e1 : h1 1 = _ := (fr1 1 (by omega) (by decide) (by decide)).trans k1
  have e2 : h1 2 = _ := (fr1 2 (by omega) (by decide) (by decide)).trans k2
  have e3 : CA h1 3 S.2.1 S.2.2.1 := k4.moved (fr1 3 (by omega) (by decide) (by decide)) (fr1 (3 + 1) (by omega) (by decide) (by decide))
  obtain ⟨kc, kd, -⟩ := id e3
  refine g_aload_n (q := 17) rfl rfl dX7_recode_16 rfl ?_
  refine g_get (q := 20) fX7_12r (by decide) e0 rfl dX7_recode_17 rfl ?_
  refine g_get (q := 23) fX7_153r (by decide) e1 rfl dX7_recode_20 rfl ?_
  refine g_iload_n (q := 24) rfl rfl dX7_recode_23 rfl ?_
  refine g_Vv (q := 27) (d' := 1) (i := 3) (av := [.int (iI (i))]) (st := []) kvX7_203 (t_X0_dropList l h1 3 S.2.1 S.2.2.1 e3 i (by omega) (by omega)) (by decide) kd rfl (Nat.le_of_ble_eq_true rfl) ⟨(Nat.le_of_ble_eq_true rfl), (Nat.le_of_ble_eq_true rfl)⟩ ⟨(Nat.le_of_ble_eq_true rfl), (Nat.le_of_ble_eq_true rfl)⟩ rfl rfl dX7_recode_24 rfl (fun h2 hp2 => ?_)
  obtain ⟨p1, p2⟩ := hp2
  have fr : ∀ j, (j < 5 + 3 * i ∨ 5 + 3 * i + 2 < j) → j ≠ 84 → j ≠ 85 → j ≠ 3 → j ≠ 4 → h2 j = h j := fun j a b d e9 f9 => (p2 j e9 f9).trans (fr1 j a b d)
  exact g_vreturn (fun z => NN_f z) (Nat.le_of_ble_eq_true rfl) (Nat.le_of_ble_eq_true rfl) dX7_recode_27 rfl (vP_in ⟨⟨(fr 0 (by omega) (by decide) (by decide) (by decide) (by decide)).trans g0, (fr 1 (by omega) (by decide) (by decide) (by decide) (by decide)).trans k1, (fr 2 (by omega) (by decide) (by decide) (by decide) (by decide)).trans k2, p1, fun j hj _ => by
      by_cases e : j = i
      · subst e
        rw [wrL_s]
        exact LA_ag ⟨m1, ds, fa1, ⟨(p2 _ (by omega) (by omega)).trans hA1.1, (p2 _ (by omega) (by omega)).trans hA1.2.1, (p2 _ (by omega) (by omega)).trans hA1.2.2.1, hA1.2.2.2⟩, fun _ _ _ => rfl, ag_LOk hag hO, hF1⟩ hag
      · rw [wrL_n e]
        exact (k5 j hj e).moved (fr _ (by omega) (by omega) (by omega) (by omega) (by omega)) (fr _ (by omega) (by omega) (by omega) (by omega) (by omega)) (fr _ (by omega) (by omega) (by omega) (by omega) (by omega)), ⟨nx, g5.moved (fun j a b => fr j (by omega) (by omega) (by omega) (by omega) (by omega))⟩, ⟨Ws1, Es1, (fr 83 (by omega) (by decide) (by decide) (by decide) (by decide)).trans g6, (p2 84 (by decide) (by decide)).trans q1, (p2 85 (by decide) (by decide)).trans q2⟩, ⟨len, bs, (fr 86 (by omega) (by decide) (by decide) (by decide) (by decide)).trans g9, (fr 87 (by omega) (by decide) (by decide) (by decide) (by decide)).trans g10, g11⟩, ⟨od, (fr 88 (by omega) (by decide) (by decide) (by decide) (by decide)).trans g12⟩, ⟨rs, (fr 89 (by omega) (by decide) (by decide) (by decide) (by decide)).trans g13⟩⟩, fun j hj => fr j (by omega) (by omega) (by omega) (by omega) (by omega)⟩)
set_option maxRecDepth 4000 in
theorem t_X7_writeResult (l : Launch) (h : EHp) (S : ASt) (sv : List ASt) (i : Nat) (hi : i < 4) (hC : CRep h S sv) (rs f : Int → Int) (len : Int) (hR : h 89 = cI 128 rs) (hO : LOk len f) (hag : Ag len rs f) : CT l mX7_writeResult 5 0 0 [.ref (0), .int (iI (i)), .int (iI (len))] NN h (wP (fun v h' => v = .int (iI len) ∧ CRep h' (wrL S i len f) sv ∧ FrC h h')) := by
  obtain ⟨g0, k1, k2, k4, k5, ⟨nx, g5⟩, ⟨Ws, Es, g6, g7, g8⟩, ⟨len0, bs, g9, g10, g11⟩, ⟨od, g12⟩, -⟩ := id hC
  have er : lref 1 (i : Int) = some (5 + 3 * i) := by unfold lref; rw [if_pos (by omega), Int.toNat_natCast]
  obtain ⟨m, ds, fa, hA, -, hO0, -⟩ := k5 i hi trivial
  have hl0 := hO.1
  have hl6 := hO.2.1
  refine CT.of (by decide) (Nat.le_of_ble_eq_true rfl) ?_
  refine g_al (al2 := [some (.ref (0)), some (.int (iI (i))), some (.int (iI (len)))]) rfl ?_
  refine g_aload_n (q := 1) rfl rfl dX7_writeResult_0 rfl ?_
  refine g_get (q := 4) fX7_12r (by decide) g0 rfl dX7_writeResult_1 rfl ?_
  refine g_get (q := 7) fX7_177r (by decide) k1 rfl dX7_writeResult_4 rfl ?_
  refine g_iload_n (q := 8) rfl rfl dX7_writeResult_7 rfl ?_
  refine g_aaload (q := 9) (by decide) k2 (Or.inl rfl) (by omega) (by omega) (by decide) er dX7_writeResult_8 rfl ?_
  refine g_aload_n (q := 10) rfl rfl dX7_writeResult_9 rfl ?_
  refine g_get (q := 13) fX7_41r (by decide) g0 rfl dX7_writeResult_10 rfl ?_
  refine g_iload_n (q := 14) rfl rfl dX7_writeResult_13 rfl ?_
  refine g_Vv (q := 17) (d' := 1) (i := 5 + 3 * i) (av := [.ref (89), .int (iI (len))]) (st := []) kvX7_206 (t_X4_replace l h (5 + 3 * i) 89 128 (S.1 i).1 m len ds fa rs hA hR (by decide) (by omega) (by decide) hl0 hl6 (by omega)) (by show _ < 103; omega) hA.1 rfl (Nat.le_of_ble_eq_true rfl) ⟨(Nat.le_of_ble_eq_true rfl), (Nat.le_of_ble_eq_true rfl)⟩ ⟨(Nat.le_of_ble_eq_true rfl), (Nat.le_of_ble_eq_true rfl)⟩ rfl rfl dX7_writeResult_14 rfl (fun h1 hp => ?_)
  obtain ⟨hA1, fr⟩ := hp
  have hC1 : CM h1 S sv (fun j => j ≠ i) := ⟨(fr 0 (by omega)).trans g0, (fr 1 (by omega)).trans k1, (fr 2 (by omega)).trans k2, k4.moved (fr _ (by omega)) (fr _ (by omega)), fun j hj e => (k5 j hj trivial).moved (fr _ (by omega)) (fr _ (by omega)) (fr _ (by omega)), ⟨nx, g5.moved (fun j a b => fr j (by omega))⟩, ⟨Ws, Es, (fr 83 (by omega)).trans g6, (fr 84 (by omega)).trans g7, (fr 85 (by omega)).trans g8⟩, ⟨len0, bs, (fr 86 (by omega)).trans g9, (fr 87 (by omega)).trans g10, g11⟩, ⟨od, (fr 88 (by omega)).trans g12⟩, ⟨rs, (fr 89 (by omega)).trans hR⟩⟩
  obtain ⟨e0, -⟩ := id hC1
  refine g_aload_n (q := 18) rfl rfl dX7_writeResult_17 rfl ?_
  refine g_iload_n (q := 19) rfl rfl dX7_writeResult_18 rfl ?_
  refine g_Vv (q := 22) (d' := 4) (i := 0) (av := [.int (iI (i))]) (st := []) kvX7_86 (t_X7_recode l h1 S sv i hi len m (cpy rs ds 0 0 len) fa f hC1 hA1 hO (fun j a b => by unfold cpy; rw [if_pos (by omega), show 0 + (j - 0) = j by omega]; exact hag j a b)) (by decide) e0 rfl (Nat.le_of_ble_eq_true rfl) ⟨(Nat.le_of_ble_eq_true rfl), (Nat.le_of_ble_eq_true rfl)⟩ ⟨(Nat.le_of_ble_eq_true rfl), (Nat.le_of_ble_eq_true rfl)⟩ rfl rfl dX7_writeResult_19 rfl (fun h2 hp2 => ?_)
  obtain ⟨q1, q2⟩ := hp2
  refine g_iload_n (q := 23) rfl rfl dX7_writeResult_22 rfl ?_
  exact g_ireturn (fun z => NN_f z) (Nat.le_of_ble_eq_true rfl) (Nat.le_of_ble_eq_true rfl) dX7_writeResult_23 rfl (wP_in ⟨rfl, q1, fun j hj => (q2 j hj).trans (fr j (by omega))⟩)
