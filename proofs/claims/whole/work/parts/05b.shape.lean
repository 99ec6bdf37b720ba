/-! ===== Shape ===== -/
set_option maxRecDepth 4000 in
theorem t_X5_lowBits (l : Launch) (n u : Int) (hn : 1 ≤ n) (hn6 : n ≤ 64) (hu : n ≤ u) (h5 : u ≤ 512) (h : EHp) : CT l mX5_lowBits 0 0 0 [.int (iI (n)), .int (iI (u))] NN h (rP (.int (iI (lb n u))) h) := by
  refine CT.of (by decide) (Nat.le_of_ble_eq_true rfl) ?_
  refine g_al (al2 := [some (.int (iI (n))), some (.int (iI (u))), none]) rfl ?_
  refine g_iconst (q := 1) dX5_lowBits_0 rfl ?_
  refine g_istore_n (q := 2) (al2 := [some (.int (iI (n))), some (.int (iI (u))), some (.int (iI (0)))]) rfl (by decide) rfl rfl dX5_lowBits_1 rfl ?_
  refine loopG (σ := Int) (P := fun w => G l noX mX5_lowBits 0 0 0 (rP (.int (iI (lb n u))) h) 0 0 2 [some (.int (iI (n))), some (.int (iI (u))), some (.int (iI (w)))] [] NN h) (I := fun w => 0 ≤ w ∧ w ≤ 9 ∧ n * 2 ^ w.toNat ≤ u) (fun w => (9 - w).toNat) ?_ 0 ⟨by omega, by omega, by simpa using hu⟩
  intro w hI ih
  obtain ⟨i1, i2, i3⟩ := hI
  have e9 := p2_succ i1
  have e8 : n * 2 ^ (w + 1).toNat = 2 * (n * 2 ^ w.toNat) := by rw [e9, Int.mul_left_comm]
  have e6 : 0 ≤ n * 2 ^ w.toNat := Int.mul_nonneg (by omega) (Int.le_of_lt (p2_pos _))
  refine g_iload_n (q := 3) rfl rfl dX5_lowBits_2 rfl ?_
  refine g_bipush (q := 5) (by decide) dX5_lowBits_3 rfl ?_
  refine g_icmp_ge (t := 23) (q := 8) ⟨by omega, by omega⟩ ⟨by omega, by omega⟩ dX5_lowBits_5 rfl rfl (fun c5 => ?_) (fun c5 => ?_)
  · have e7 : w = lb n u := lb_uniq hn hu i1 i3 (by
      have : w = 9 := by omega
      subst this
      have : (2 : Int) ^ ((9 : Int) + 1).toNat = 1024 := by decide
      rw [this]; omega)
    rw [e7]
    refine g_iload_n (q := 24) rfl rfl dX5_lowBits_23 rfl ?_
    exact g_ireturn (fun z => NN_f z) (Nat.le_of_ble_eq_true rfl) (Nat.le_of_ble_eq_true rfl) dX5_lowBits_24 rfl rP_in
  · refine g_iload_n (q := 9) rfl rfl dX5_lowBits_8 rfl ?_
    refine g_iload_n (q := 10) rfl rfl dX5_lowBits_9 rfl ?_
    refine g_iconst (q := 11) dX5_lowBits_10 rfl ?_
    refine g_iadd (q := 12) dX5_lowBits_11 rfl ?_
    refine g_ishl (q := 13) (by omega) (by omega) (by omega) (by omega) dX5_lowBits_12 rfl ?_
    refine g_iload_n (q := 14) rfl rfl dX5_lowBits_13 rfl ?_
    refine g_icmp_gt (t := 23) (q := 17) ⟨by omega, by omega⟩ ⟨by omega, by omega⟩ dX5_lowBits_14 rfl rfl (fun c14 => ?_) (fun c14 => ?_)
    · have e7 : w = lb n u := lb_uniq hn hu i1 i3 (by omega)
      rw [e7]
      refine g_iload_n (q := 24) rfl rfl dX5_lowBits_23 rfl ?_
      exact g_ireturn (fun z => NN_f z) (Nat.le_of_ble_eq_true rfl) (Nat.le_of_ble_eq_true rfl) dX5_lowBits_24 rfl rP_in
    · refine g_iinc (q := 20) (al2 := [some (.int (iI (n))), some (.int (iI (u))), some (.int (iI (w + 1)))]) rfl (by decide) rfl rfl dX5_lowBits_17 rfl ?_
      refine g_goto (q := 2) dX5_lowBits_20 rfl ?_
      exact ih (w + 1) ⟨by omega, by omega, by omega⟩ (by omega)
set_option maxRecDepth 4000 in
theorem t_X5_highLength (l : Launch) (n u w : Int) (hn : 1 ≤ n) (hu : 1 ≤ u) (h5 : u ≤ 512) (hw : 0 ≤ w) (hw9 : w ≤ 9) (h : EHp) : CT l mX5_highLength 0 0 0 [.int (iI (n)), .int (iI (u)), .int (iI (w))] NN h (rP (.int (iI (hiL n u w))) h) := by
  refine CT.of (by decide) (Nat.le_of_ble_eq_true rfl) ?_
  refine g_al (al2 := [some (.int (iI (n))), some (.int (iI (u))), some (.int (iI (w)))]) rfl ?_
  refine g_iload_n (q := 1) rfl rfl dX5_highLength_0 rfl ?_
  refine g_iload_n (q := 2) rfl rfl dX5_highLength_1 rfl ?_
  refine g_iconst (q := 3) dX5_highLength_2 rfl ?_
  refine g_isub (q := 4) dX5_highLength_3 rfl ?_
  refine g_iload_n (q := 5) rfl rfl dX5_highLength_4 rfl ?_
  refine g_ishr (q := 6) (by omega) (by omega) (by omega) (by omega) dX5_highLength_5 rfl ?_
  refine g_iadd (q := 7) dX5_highLength_6 rfl ?_
  refine g_iconst (q := 8) dX5_highLength_7 rfl ?_
  refine g_iadd (q := 9) dX5_highLength_8 rfl ?_
  exact g_ireturn (fun z => NN_f z) (Nat.le_of_ble_eq_true rfl) (Nat.le_of_ble_eq_true rfl) dX5_highLength_9 rfl rP_in
set_option maxRecDepth 4000 in
theorem t_X5_bestSize (l : Launch) (n u : Int) (hn : 1 ≤ n) (hn6 : n ≤ 64) (hu : n ≤ u) (h5 : u ≤ 512) (h : EHp) : CT l mX5_bestSize 1 0 0 [.int (iI (n)), .int (iI (u))] NN h (rP (.int (iI (bs n u))) h) := by
  refine CT.of (by decide) (Nat.le_of_ble_eq_true rfl) ?_
  refine g_al (al2 := [some (.int (iI (n))), some (.int (iI (u))), none, none]) rfl ?_
  obtain ⟨a1, a2, a3, a4⟩ := lb_spec hn hu h5
  obtain ⟨b1, b2⟩ := ef_rng hn hn6 hu h5
  refine g_iload_n (q := 1) rfl rfl dX5_bestSize_0 rfl ?_
  refine g_iload_n (q := 2) rfl rfl dX5_bestSize_1 rfl ?_
  refine g_icmp_ne (t := 8) (q := 5) ⟨by omega, by omega⟩ ⟨by omega, by omega⟩ dX5_bestSize_2 rfl rfl (fun c2 => ?_) (fun c2 => ?_)
  · refine g_iload_n (q := 9) rfl rfl dX5_bestSize_8 rfl ?_
    refine g_iload_n (q := 10) rfl rfl dX5_bestSize_9 rfl ?_
    refine g_Sr (q := 13) (d' := 0) (av := [.int (iI (n)), .int (iI (u))]) (st := []) (v := .int (iI (lb n u))) ksX5_11 (t_X5_lowBits l n u hn hn6 hu h5 h) rfl (Nat.le_of_ble_eq_true rfl) ⟨(Nat.le_of_ble_eq_true rfl), (Nat.le_of_ble_eq_true rfl)⟩ ⟨(Nat.le_of_ble_eq_true rfl), (Nat.le_of_ble_eq_true rfl)⟩ rfl rfl dX5_bestSize_10 rfl ?_
    refine g_istore_n (q := 14) (al2 := [some (.int (iI (n))), some (.int (iI (u))), some (.int (iI (lb n u))), none]) rfl (by decide) rfl rfl dX5_bestSize_13 rfl ?_
    refine g_iload_n (q := 15) rfl rfl dX5_bestSize_14 rfl ?_
    refine g_iload_n (q := 16) rfl rfl dX5_bestSize_15 rfl ?_
    refine g_iload_n (q := 17) rfl rfl dX5_bestSize_16 rfl ?_
    refine g_Sr (q := 20) (d' := 0) (av := [.int (iI (n)), .int (iI (u)), .int (iI (lb n u))]) (st := []) (v := .int (iI (hiL n u (lb n u)))) ksX5_15 (t_X5_highLength l n u (lb n u) hn (by omega) h5 a1 a2 h) rfl (Nat.le_of_ble_eq_true rfl) ⟨(Nat.le_of_ble_eq_true rfl), (Nat.le_of_ble_eq_true rfl)⟩ ⟨(Nat.le_of_ble_eq_true rfl), (Nat.le_of_ble_eq_true rfl)⟩ rfl rfl dX5_bestSize_17 rfl ?_
    have e1 : hiL n u (lb n u) + n * lb n u = ef n u := rfl
    refine g_iload_n (q := 21) rfl rfl dX5_bestSize_20 rfl ?_
    refine g_iload_n (q := 22) rfl rfl dX5_bestSize_21 rfl ?_
    refine g_imul (q := 23) dX5_bestSize_22 rfl ?_
    refine g_iadd (q := 24) dX5_bestSize_23 rfl ?_
    refine g_istore_n (q := 25) (al2 := [some (.int (iI (n))), some (.int (iI (u))), some (.int (iI (lb n u))), some (.int (iI ((hiL n u (lb n u)) + (n * (lb n u)))))]) rfl (by decide) rfl rfl dX5_bestSize_24 rfl ?_
    refine g_bipush (q := 27) (by decide) dX5_bestSize_25 rfl ?_
    refine g_iload_n (q := 28) rfl rfl dX5_bestSize_27 rfl ?_
    refine g_iload_n (q := 29) rfl rfl dX5_bestSize_28 rfl ?_
    refine g_icmp_ge (t := 36) (q := 32) ⟨by omega, by omega⟩ ⟨by omega, by omega⟩ dX5_bestSize_29 rfl rfl (fun c29 => ?_) (fun c29 => ?_)
    · refine g_iload_n (q := 37) rfl rfl dX5_bestSize_36 rfl ?_
      refine g_iadd (q := 38) dX5_bestSize_37 rfl ?_
      have e2 : bs n u = 26 + u := by unfold bs; rw [if_neg c2, if_neg (by omega)]
      rw [e2]
      exact g_ireturn (fun z => NN_f z) (Nat.le_of_ble_eq_true rfl) (Nat.le_of_ble_eq_true rfl) dX5_bestSize_38 rfl rP_in
    · refine g_iload_n (q := 33) rfl rfl dX5_bestSize_32 rfl ?_
      refine g_goto (q := 37) dX5_bestSize_33 rfl ?_
      refine g_iadd (q := 38) dX5_bestSize_37 rfl ?_
      have e2 : bs n u = 26 + ef n u := by unfold bs; rw [if_neg c2, if_pos (by omega)]
      rw [e2]
      exact g_ireturn (fun z => NN_f z) (Nat.le_of_ble_eq_true rfl) (Nat.le_of_ble_eq_true rfl) dX5_bestSize_38 rfl rP_in
  · have e2 : bs n u = 26 := by unfold bs; rw [if_pos c2]
    rw [e2]
    refine g_bipush (q := 7) (by decide) dX5_bestSize_5 rfl ?_
    exact g_ireturn (fun z => NN_f z) (Nat.le_of_ble_eq_true rfl) (Nat.le_of_ble_eq_true rfl) dX5_bestSize_7 rfl rP_in
set_option maxRecDepth 4000 in
theorem t_X5_bestKind (l : Launch) (n u : Int) (hn : 1 ≤ n) (hn6 : n ≤ 64) (hu : n ≤ u) (h5 : u ≤ 512) (h : EHp) : CT l mX5_bestKind 0 0 0 [.int (iI (n)), .int (iI (u)), .int (iI (bs n u))] NN h (rP (.int (iI (knd n u))) h) := by
  refine CT.of (by decide) (Nat.le_of_ble_eq_true rfl) ?_
  refine g_al (al2 := [some (.int (iI (n))), some (.int (iI (u))), some (.int (iI (bs n u)))]) rfl ?_
  obtain ⟨b1, b2⟩ := bs_rng hn hn6 hu h5
  refine g_iload_n (q := 1) rfl rfl dX5_bestKind_0 rfl ?_
  refine g_iload_n (q := 2) rfl rfl dX5_bestKind_1 rfl ?_
  refine g_icmp_ne (t := 7) (q := 5) ⟨by omega, by omega⟩ ⟨by omega, by omega⟩ dX5_bestKind_2 rfl rfl (fun c2 => ?_) (fun c2 => ?_)
  · refine g_iload_n (q := 8) rfl rfl dX5_bestKind_7 rfl ?_
    refine g_bipush (q := 10) (by decide) dX5_bestKind_8 rfl ?_
    refine g_iload_n (q := 11) rfl rfl dX5_bestKind_10 rfl ?_
    refine g_iadd (q := 12) dX5_bestKind_11 rfl ?_
    refine g_icmp_ge (t := 19) (q := 15) ⟨by omega, by omega⟩ ⟨by omega, by omega⟩ dX5_bestKind_12 rfl rfl (fun c12 => ?_) (fun c12 => ?_)
    · refine g_iconst (q := 20) dX5_bestKind_19 rfl ?_
      have e2 : knd n u = 1 := by unfold knd; rw [if_neg c2, if_neg (by omega)]
      rw [e2]
      exact g_ireturn (fun z => NN_f z) (Nat.le_of_ble_eq_true rfl) (Nat.le_of_ble_eq_true rfl) dX5_bestKind_20 rfl rP_in
    · refine g_iconst (q := 16) dX5_bestKind_15 rfl ?_
      refine g_goto (q := 20) dX5_bestKind_16 rfl ?_
      have e2 : knd n u = 2 := by unfold knd; rw [if_neg c2, if_pos (by omega)]
      rw [e2]
      exact g_ireturn (fun z => NN_f z) (Nat.le_of_ble_eq_true rfl) (Nat.le_of_ble_eq_true rfl) dX5_bestKind_20 rfl rP_in
  · refine g_iconst (q := 6) dX5_bestKind_5 rfl ?_
    have e2 : knd n u = 0 := by unfold knd; rw [if_pos c2]
    rw [e2]
    exact g_ireturn (fun z => NN_f z) (Nat.le_of_ble_eq_true rfl) (Nat.le_of_ble_eq_true rfl) dX5_bestKind_6 rfl rP_in
