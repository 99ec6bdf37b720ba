/-! ===== the reference: small methods ===== -/
theorem MRep.thr {h h' : EHp} {th th2 : Int} {S : ASt} {sv : List ASt} (hM : MRep h th S sv) (h1 : h' 90 = cO 7 [.int (iI th2), .ref 91, .ref 92, .int (iI sv.length), .ref 93, .ref 94, .ref 95, .ref 96, .ref 97, .ref 98, .ref 99, .ref 100]) (fr : ∀ j, j ≠ 90 → h' j = h j) : MRep h' th2 S sv := by
  obtain ⟨w, pst, bg, mn, lz, -, ⟨m1, m2, m3, m4, m5⟩, ⟨⟨cs, s1⟩, ⟨ct, s2⟩, ⟨nx, s3⟩, ⟨fd, s4⟩, ⟨od, s5⟩⟩, hW, hP, hY⟩ := hM
  exact ⟨w, pst, bg, mn, lz, h1, ⟨(fr 91 (by decide)).trans m1, (fr 92 (by decide)).trans m2, (fr 93 (by decide)).trans m3, (fr 94 (by decide)).trans m4, (fr 95 (by decide)).trans m5⟩, ⟨⟨cs, (fr 96 (by decide)).trans s1⟩, ⟨ct, (fr 97 (by decide)).trans s2⟩, ⟨nx, (fr 98 (by decide)).trans s3⟩, ⟨fd, (fr 99 (by decide)).trans s4⟩, ⟨od, (fr 100 (by decide)).trans s5⟩⟩, hW, hP, hY⟩
set_option maxRecDepth 4000 in
theorem t_X8_in1 (l : Launch) (h : EHp) (v lo up : Int) (hv : IR v) (hlo : IR lo) (hup : IR up) (h0 : lo ≤ v) (h1 : v ≤ up) : CT l mX8_in 0 0 0 [.int (iI (v)), .int (iI (lo)), .int (iI (up))] NN h (rP (.int (iI 1)) h) := by
  refine CT.of (by decide) (Nat.le_of_ble_eq_true rfl) ?_
  refine g_al (al2 := [some (.int (iI (v))), some (.int (iI (lo))), some (.int (iI (up)))]) rfl ?_
  refine g_iload_n (q := 1) rfl rfl dX8_in_0 rfl ?_
  refine g_iload_n (q := 2) rfl rfl dX8_in_1 rfl ?_
  refine g_icmp_lt (t := 14) (q := 5) hv hlo dX8_in_2 rfl rfl (fun c2 => ?_) (fun c2 => ?_)
  · omega
  · refine g_iload_n (q := 6) rfl rfl dX8_in_5 rfl ?_
    refine g_iload_n (q := 7) rfl rfl dX8_in_6 rfl ?_
    refine g_icmp_gt (t := 14) (q := 10) hv hup dX8_in_7 rfl rfl (fun c7 => ?_) (fun c7 => ?_)
    · omega
    · refine g_iconst (q := 11) dX8_in_10 rfl ?_
      refine g_goto (q := 15) dX8_in_11 rfl ?_
      exact g_zreturn (fun z => NN_f z) (Nat.le_of_ble_eq_true rfl) (Nat.le_of_ble_eq_true rfl) dX8_in_15 rfl (by decide) rP_in
set_option maxRecDepth 4000 in
theorem t_X8_in0 (l : Launch) (h : EHp) (v lo up : Int) (hv : IR v) (hlo : IR lo) (hup : IR up) (h0 : v < lo ∨ up < v) : CT l mX8_in 0 0 0 [.int (iI (v)), .int (iI (lo)), .int (iI (up))] NN h (rP (.int (iI 0)) h) := by
  refine CT.of (by decide) (Nat.le_of_ble_eq_true rfl) ?_
  refine g_al (al2 := [some (.int (iI (v))), some (.int (iI (lo))), some (.int (iI (up)))]) rfl ?_
  refine g_iload_n (q := 1) rfl rfl dX8_in_0 rfl ?_
  refine g_iload_n (q := 2) rfl rfl dX8_in_1 rfl ?_
  refine g_icmp_lt (t := 14) (q := 5) hv hlo dX8_in_2 rfl rfl (fun c2 => ?_) (fun c2 => ?_)
  · refine g_iconst (q := 15) dX8_in_14 rfl ?_
    exact g_zreturn (fun z => NN_f z) (Nat.le_of_ble_eq_true rfl) (Nat.le_of_ble_eq_true rfl) dX8_in_15 rfl (by decide) rP_in
  · refine g_iload_n (q := 6) rfl rfl dX8_in_5 rfl ?_
    refine g_iload_n (q := 7) rfl rfl dX8_in_6 rfl ?_
    refine g_icmp_gt (t := 14) (q := 10) hv hup dX8_in_7 rfl rfl (fun c7 => ?_) (fun c7 => ?_)
    · refine g_iconst (q := 15) dX8_in_14 rfl ?_
      exact g_zreturn (fun z => NN_f z) (Nat.le_of_ble_eq_true rfl) (Nat.le_of_ble_eq_true rfl) dX8_in_15 rfl (by decide) rP_in
    · omega
set_option maxRecDepth 4000 in
theorem t_X8_isList1 (l : Launch) (h : EHp) (v : Int) (h0 : 0 ≤ v) (h1 : v ≤ 3) : CT l mX8_isList 1 0 0 [.int (iI (v))] NN h (rP (.int (iI 1)) h) := by
  refine CT.of (by decide) (Nat.le_of_ble_eq_true rfl) ?_
  refine g_al (al2 := [some (.int (iI (v)))]) rfl ?_
  refine g_iload_n (q := 1) rfl rfl dX8_isList_0 rfl ?_
  refine g_iconst (q := 2) dX8_isList_1 rfl ?_
  refine g_iconst (q := 3) dX8_isList_2 rfl ?_
  refine g_Sr (q := 6) (d' := 0) (av := [.int (iI (v)), .int (iI (0)), .int (iI (3))]) (st := []) (v := .int (iI (1))) ksX8_45 (t_X8_in1 l h v 0 3 ⟨by omega, by omega⟩ (by decide) (by decide) h0 h1) rfl (Nat.le_of_ble_eq_true rfl) ⟨(Nat.le_of_ble_eq_true rfl), (Nat.le_of_ble_eq_true rfl)⟩ ⟨(Nat.le_of_ble_eq_true rfl), (Nat.le_of_ble_eq_true rfl)⟩ rfl rfl dX8_isList_3 rfl ?_
  exact g_zreturn (fun z => NN_f z) (Nat.le_of_ble_eq_true rfl) (Nat.le_of_ble_eq_true rfl) dX8_isList_6 rfl (by decide) rP_in
set_option maxRecDepth 4000 in
theorem t_X8_isList0 (l : Launch) (h : EHp) (v : Int) (hv : IR v) (h0 : v < 0 ∨ 3 < v) : CT l mX8_isList 1 0 0 [.int (iI (v))] NN h (rP (.int (iI 0)) h) := by
  refine CT.of (by decide) (Nat.le_of_ble_eq_true rfl) ?_
  refine g_al (al2 := [some (.int (iI (v)))]) rfl ?_
  refine g_iload_n (q := 1) rfl rfl dX8_isList_0 rfl ?_
  refine g_iconst (q := 2) dX8_isList_1 rfl ?_
  refine g_iconst (q := 3) dX8_isList_2 rfl ?_
  refine g_Sr (q := 6) (d' := 0) (av := [.int (iI (v)), .int (iI (0)), .int (iI (3))]) (st := []) (v := .int (iI (0))) ksX8_45 (t_X8_in0 l h v 0 3 hv (by decide) (by decide) h0) rfl (Nat.le_of_ble_eq_true rfl) ⟨(Nat.le_of_ble_eq_true rfl), (Nat.le_of_ble_eq_true rfl)⟩ ⟨(Nat.le_of_ble_eq_true rfl), (Nat.le_of_ble_eq_true rfl)⟩ rfl rfl dX8_isList_3 rfl ?_
  exact g_zreturn (fun z => NN_f z) (Nat.le_of_ble_eq_true rfl) (Nat.le_of_ble_eq_true rfl) dX8_isList_6 rfl (by decide) rP_in
set_option maxRecDepth 4000 in
theorem t_X8_isSet1 (l : Launch) (h : EHp) (v : Int) (h0 : 1 ≤ v) (h1 : v ≤ 15) : CT l mX8_isSet 1 0 0 [.int (iI (v))] NN h (rP (.int (iI 1)) h) := by
  refine CT.of (by decide) (Nat.le_of_ble_eq_true rfl) ?_
  refine g_al (al2 := [some (.int (iI (v)))]) rfl ?_
  refine g_iload_n (q := 1) rfl rfl dX8_isSet_0 rfl ?_
  refine g_iconst (q := 2) dX8_isSet_1 rfl ?_
  refine g_bipush (q := 4) (by decide) dX8_isSet_2 rfl ?_
  refine g_Sr (q := 7) (d' := 0) (av := [.int (iI (v)), .int (iI (1)), .int (iI (15))]) (st := []) (v := .int (iI (1))) ksX8_45 (t_X8_in1 l h v 1 15 ⟨by omega, by omega⟩ (by decide) (by decide) h0 h1) rfl (Nat.le_of_ble_eq_true rfl) ⟨(Nat.le_of_ble_eq_true rfl), (Nat.le_of_ble_eq_true rfl)⟩ ⟨(Nat.le_of_ble_eq_true rfl), (Nat.le_of_ble_eq_true rfl)⟩ rfl rfl dX8_isSet_4 rfl ?_
  exact g_zreturn (fun z => NN_f z) (Nat.le_of_ble_eq_true rfl) (Nat.le_of_ble_eq_true rfl) dX8_isSet_7 rfl (by decide) rP_in
set_option maxRecDepth 4000 in
theorem t_X8_isSet0 (l : Launch) (h : EHp) (v : Int) (hv : IR v) (h0 : v < 1 ∨ 15 < v) : CT l mX8_isSet 1 0 0 [.int (iI (v))] NN h (rP (.int (iI 0)) h) := by
  refine CT.of (by decide) (Nat.le_of_ble_eq_true rfl) ?_
  refine g_al (al2 := [some (.int (iI (v)))]) rfl ?_
  refine g_iload_n (q := 1) rfl rfl dX8_isSet_0 rfl ?_
  refine g_iconst (q := 2) dX8_isSet_1 rfl ?_
  refine g_bipush (q := 4) (by decide) dX8_isSet_2 rfl ?_
  refine g_Sr (q := 7) (d' := 0) (av := [.int (iI (v)), .int (iI (1)), .int (iI (15))]) (st := []) (v := .int (iI (0))) ksX8_45 (t_X8_in0 l h v 1 15 hv (by decide) (by decide) h0) rfl (Nat.le_of_ble_eq_true rfl) ⟨(Nat.le_of_ble_eq_true rfl), (Nat.le_of_ble_eq_true rfl)⟩ ⟨(Nat.le_of_ble_eq_true rfl), (Nat.le_of_ble_eq_true rfl)⟩ rfl rfl dX8_isSet_4 rfl ?_
  exact g_zreturn (fun z => NN_f z) (Nat.le_of_ble_eq_true rfl) (Nat.le_of_ble_eq_true rfl) dX8_isSet_7 rfl (by decide) rP_in
set_option maxRecDepth 4000 in
theorem t_X8_thrown (l : Launch) (h : EHp) (th : Int) (S : ASt) (sv : List ASt) (hM : MRep h th S sv) : CT l mX8_thrown 0 0 0 [.ref (90)] NN h (rP (.int (iI th)) h) := by
  obtain ⟨w, pst, bg, mn, lz, hA, ⟨m1, m2, m3, m4, m5⟩, ⟨⟨cs, s1⟩, ⟨ct, s2⟩, ⟨nx, s3⟩, ⟨fd, s4⟩, ⟨od, s5⟩⟩, hW, hP, hY⟩ := id hM
  refine CT.of (by decide) (Nat.le_of_ble_eq_true rfl) ?_
  refine g_al (al2 := [some (.ref (90))]) rfl ?_
  refine g_aload_n (q := 1) rfl rfl dX8_thrown_0 rfl ?_
  refine g_get (q := 4) fX8_41r (by decide) hA rfl dX8_thrown_1 rfl ?_
  exact g_ireturn (fun z => NN_f z) (Nat.le_of_ble_eq_true rfl) (Nat.le_of_ble_eq_true rfl) dX8_thrown_4 rfl rP_in
set_option maxRecDepth 4000 in
theorem t_X8_fails (l : Launch) (h : EHp) (th : Int) (S : ASt) (sv : List ASt) (hM : MRep h th S sv) (cd : Int) : CT l mX8_fails 0 0 0 [.ref (90), .int (iI (cd))] NN h (wP (fun v h' => v = .int (iI 0) ∧ MRep h' cd S sv ∧ ∀ j, j ≠ 90 → h' j = h j)) := by
  obtain ⟨w, pst, bg, mn, lz, hA, ⟨m1, m2, m3, m4, m5⟩, ⟨⟨cs, s1⟩, ⟨ct, s2⟩, ⟨nx, s3⟩, ⟨fd, s4⟩, ⟨od, s5⟩⟩, hW, hP, hY⟩ := id hM
  refine CT.of (by decide) (Nat.le_of_ble_eq_true rfl) ?_
  refine g_al (al2 := [some (.ref (90)), some (.int (iI (cd)))]) rfl ?_
  refine g_aload_n (q := 1) rfl rfl dX8_fails_0 rfl ?_
  refine g_iload_n (q := 2) rfl rfl dX8_fails_1 rfl ?_
  refine g_put (q := 5) fX8_41 (by decide) hA (Nat.le_of_ble_eq_true rfl) (fun _ _ => rfl) (fun _ _ => rfl) dX8_fails_2 rfl ?_
  refine hp_in (fun hh1 ehh1 => ?_)
  have fc2 : hh1 90 = cO 7 [.int (iI (cd)), .ref (91), .ref (92), .int (iI (sv.length)), .ref (93), .ref (94), .ref (95), .ref (96), .ref (97), .ref (98), .ref (99), .ref (100)] := by rw [ehh1]; exact ueh_s
  refine g_iconst (q := 6) dX8_fails_5 rfl ?_
  exact g_ireturn (fun z => NN_f z) (Nat.le_of_ble_eq_true rfl) (Nat.le_of_ble_eq_true rfl) dX8_fails_6 rfl (wP_in ⟨rfl, hM.thr fc2 (fun j hj => by rw [ehh1, ueh_n (by omega)]), fun j hj => by rw [ehh1, ueh_n (by omega)]⟩)
set_option maxRecDepth 4000 in
theorem t_X8_doc (l : Launch) (h : EHp) (i : Nat) (c : Int) (f : Int → Int) (hD : MDoc h i c f) (j : Int) (j0 : 0 ≤ j) (j1 : j < c) : CT l mX8_doc 0 0 0 [.ref (90), .int (iI (i)), .int (iI (j))] NN h (rP (.int (iI (f j))) h) := by
  obtain ⟨th, sl, w, hA, hw, hi, hc, hO, hd⟩ := id hD
  obtain ⟨o1, o2, o3, o4⟩ := id hO
  refine CT.of (by decide) (Nat.le_of_ble_eq_true rfl) ?_
  refine g_al (al2 := [some (.ref (90)), some (.int (iI (i))), some (.int (iI (j)))]) rfl ?_
  refine g_aload_n (q := 1) rfl rfl dX8_doc_0 rfl ?_
  refine g_get (q := 4) fX8_7r (by decide) hA rfl dX8_doc_1 rfl ?_
  refine g_iconst (q := 5) dX8_doc_4 rfl ?_
  refine g_bipush (q := 7) (by decide) dX8_doc_5 rfl ?_
  refine g_iload_n (q := 8) rfl rfl dX8_doc_7 rfl ?_
  refine g_imul (q := 9) dX8_doc_8 rfl ?_
  refine g_iadd (q := 10) dX8_doc_9 rfl ?_
  refine g_iload_n (q := 11) rfl rfl dX8_doc_10 rfl ?_
  refine g_iadd (q := 12) dX8_doc_11 rfl ?_
  refine g_iaload (q := 13) (by decide) hw (by omega) (by omega) (by decide) dX8_doc_12 rfl ?_
  rw [hd j j0 j1]
  exact g_ireturn (fun z => NN_f z) (Nat.le_of_ble_eq_true rfl) (Nat.le_of_ble_eq_true rfl) dX8_doc_13 rfl rP_in
set_option maxRecDepth 4000 in
theorem t_X8_lowBits (l : Launch) (n u : Int) (hn : 1 ≤ n) (hn6 : n ≤ 64) (hu : n ≤ u) (h5 : u ≤ 512) (h : EHp) : CT l mX8_lowBits 0 0 0 [.int (iI (n)), .int (iI (u))] NN h (rP (.int (iI (lb n u))) h) := by
  refine CT.of (by decide) (Nat.le_of_ble_eq_true rfl) ?_
  refine g_al (al2 := [some (.int (iI (n))), some (.int (iI (u))), none]) rfl ?_
  refine g_iconst (q := 1) dX8_lowBits_0 rfl ?_
  refine g_istore_n (q := 2) (al2 := [some (.int (iI (n))), some (.int (iI (u))), some (.int (iI (0)))]) rfl (by decide) rfl rfl dX8_lowBits_1 rfl ?_
  refine loopG (σ := Int) (P := fun w => G l noX mX8_lowBits 0 0 0 (rP (.int (iI (lb n u))) h) 0 0 2 [some (.int (iI (n))), some (.int (iI (u))), some (.int (iI (w)))] [] NN h) (I := fun w => 0 ≤ w ∧ w ≤ 9 ∧ n * 2 ^ w.toNat ≤ u) (fun w => (10 - w).toNat) ?_ 0 ⟨by omega, by omega, by simpa using hu⟩
  intro w hI ih
  obtain ⟨i1, i2, i3⟩ := hI
  have e9 := p2_succ i1
  have e8 : n * 2 ^ (w + 1).toNat = 2 * (n * 2 ^ w.toNat) := by rw [e9, Int.mul_left_comm]
  have e6 : 0 ≤ n * 2 ^ w.toNat := Int.mul_nonneg (by omega) (Int.le_of_lt (p2_pos _))
  refine g_iload_n (q := 3) rfl rfl dX8_lowBits_2 rfl ?_
  refine g_iload_n (q := 4) rfl rfl dX8_lowBits_3 rfl ?_
  refine g_iconst (q := 5) dX8_lowBits_4 rfl ?_
  refine g_iadd (q := 6) dX8_lowBits_5 rfl ?_
  refine g_ishl (q := 7) (by omega) (by omega) (by omega) (by omega) dX8_lowBits_6 rfl ?_
  refine g_iload_n (q := 8) rfl rfl dX8_lowBits_7 rfl ?_
  refine g_icmp_gt (t := 17) (q := 11) ⟨by omega, by omega⟩ ⟨by omega, by omega⟩ dX8_lowBits_8 rfl rfl (fun c8 => ?_) (fun c8 => ?_)
  · have e7 : w = lb n u := lb_uniq hn hu i1 i3 (by omega)
    rw [e7]
    refine g_iload_n (q := 18) rfl rfl dX8_lowBits_17 rfl ?_
    exact g_ireturn (fun z => NN_f z) (Nat.le_of_ble_eq_true rfl) (Nat.le_of_ble_eq_true rfl) dX8_lowBits_18 rfl rP_in
  · refine g_iinc (q := 14) (al2 := [some (.int (iI (n))), some (.int (iI (u))), some (.int (iI (w + 1)))]) rfl (by decide) rfl rfl dX8_lowBits_11 rfl ?_
    refine g_goto (q := 2) dX8_lowBits_14 rfl ?_
    have e5 : w ≤ 8 := by
      rcases Int.lt_or_le 8 w with z | z
      · have e4 : w = 9 := by omega
        subst e4
        have : (2 : Int) ^ ((9 : Int) + 1).toNat = 1024 := by decide
        rw [this] at e8 c8
        omega
      · exact z
    exact ih (w + 1) ⟨by omega, by omega, by omega⟩ (by omega)
set_option maxRecDepth 4000 in
theorem t_X8_sparse (l : Launch) (n u : Int) (hn : 1 ≤ n) (hn6 : n ≤ 64) (hu : n ≤ u) (h5 : u ≤ 512) (h : EHp) : CT l mX8_sparse 1 0 0 [.int (iI (n)), .int (iI (u))] NN h (rP (.int (iI (ef n u))) h) := by
  obtain ⟨a1, a2, a3, a4⟩ := lb_spec hn hu h5
  refine CT.of (by decide) (Nat.le_of_ble_eq_true rfl) ?_
  refine g_al (al2 := [some (.int (iI (n))), some (.int (iI (u))), none]) rfl ?_
  refine g_iload_n (q := 1) rfl rfl dX8_sparse_0 rfl ?_
  refine g_iload_n (q := 2) rfl rfl dX8_sparse_1 rfl ?_
  refine g_Sr (q := 5) (d' := 0) (av := [.int (iI (n)), .int (iI (u))]) (st := []) (v := .int (iI (lb n u))) ksX8_82 (t_X8_lowBits l n u hn hn6 hu h5 h) rfl (Nat.le_of_ble_eq_true rfl) ⟨(Nat.le_of_ble_eq_true rfl), (Nat.le_of_ble_eq_true rfl)⟩ ⟨(Nat.le_of_ble_eq_true rfl), (Nat.le_of_ble_eq_true rfl)⟩ rfl rfl dX8_sparse_2 rfl ?_
  refine g_istore_n (q := 6) (al2 := [some (.int (iI (n))), some (.int (iI (u))), some (.int (iI (lb n u)))]) rfl (by decide) rfl rfl dX8_sparse_5 rfl ?_
  refine g_iload_n (q := 7) rfl rfl dX8_sparse_6 rfl ?_
  refine g_iload_n (q := 8) rfl rfl dX8_sparse_7 rfl ?_
  refine g_iconst (q := 9) dX8_sparse_8 rfl ?_
  refine g_isub (q := 10) dX8_sparse_9 rfl ?_
  refine g_iload_n (q := 11) rfl rfl dX8_sparse_10 rfl ?_
  refine g_ishr (q := 12) (by omega) (by omega) (by omega) (by omega) dX8_sparse_11 rfl ?_
  refine g_iadd (q := 13) dX8_sparse_12 rfl ?_
  refine g_iconst (q := 14) dX8_sparse_13 rfl ?_
  refine g_iadd (q := 15) dX8_sparse_14 rfl ?_
  refine g_iload_n (q := 16) rfl rfl dX8_sparse_15 rfl ?_
  refine g_iload_n (q := 17) rfl rfl dX8_sparse_16 rfl ?_
  refine g_imul (q := 18) dX8_sparse_17 rfl ?_
  refine g_iadd (q := 19) dX8_sparse_18 rfl ?_
  exact g_ireturn (fun z => NN_f z) (Nat.le_of_ble_eq_true rfl) (Nat.le_of_ble_eq_true rfl) dX8_sparse_19 rfl rP_in
set_option maxRecDepth 4000 in
theorem t_X8_kindOf (l : Launch) (n u : Int) (hn : 1 ≤ n) (hn6 : n ≤ 64) (hu : n ≤ u) (h5 : u ≤ 512) (h : EHp) : CT l mX8_kindOf 2 0 0 [.int (iI (n)), .int (iI (u))] NN h (rP (.int (iI (knd n u))) h) := by
  obtain ⟨b1, b2⟩ := ef_rng hn hn6 hu h5
  refine CT.of (by decide) (Nat.le_of_ble_eq_true rfl) ?_
  refine g_al (al2 := [some (.int (iI (n))), some (.int (iI (u)))]) rfl ?_
  refine g_iload_n (q := 1) rfl rfl dX8_kindOf_0 rfl ?_
  refine g_iload_n (q := 2) rfl rfl dX8_kindOf_1 rfl ?_
  refine g_icmp_ne (t := 9) (q := 5) ⟨by omega, by omega⟩ ⟨by omega, by omega⟩ dX8_kindOf_2 rfl rfl (fun c2 => ?_) (fun c2 => ?_)
  · refine g_iload_n (q := 10) rfl rfl dX8_kindOf_9 rfl ?_
    refine g_iload_n (q := 11) rfl rfl dX8_kindOf_10 rfl ?_
    refine g_iload_n (q := 12) rfl rfl dX8_kindOf_11 rfl ?_
    refine g_Sr (q := 15) (d' := 1) (av := [.int (iI (n)), .int (iI (u))]) (st := [.int (iI (u))]) (v := .int (iI (ef n u))) ksX8_85 (t_X8_sparse l n u hn hn6 hu h5 h) rfl (Nat.le_of_ble_eq_true rfl) ⟨(Nat.le_of_ble_eq_true rfl), (Nat.le_of_ble_eq_true rfl)⟩ ⟨(Nat.le_of_ble_eq_true rfl), (Nat.le_of_ble_eq_true rfl)⟩ rfl rfl dX8_kindOf_12 rfl ?_
    refine g_icmp_gt (t := 22) (q := 18) ⟨by omega, by omega⟩ ⟨by omega, by omega⟩ dX8_kindOf_15 rfl rfl (fun c15 => ?_) (fun c15 => ?_)
    · refine g_iconst (q := 23) dX8_kindOf_22 rfl ?_
      have e2 : knd n u = 2 := by unfold knd bs; rw [if_neg c2, if_neg c2, if_pos (by omega)]
      rw [e2]
      exact g_ireturn (fun z => NN_f z) (Nat.le_of_ble_eq_true rfl) (Nat.le_of_ble_eq_true rfl) dX8_kindOf_23 rfl rP_in
    · refine g_iconst (q := 19) dX8_kindOf_18 rfl ?_
      refine g_goto (q := 23) dX8_kindOf_19 rfl ?_
      have e2 : knd n u = 1 := by unfold knd bs; rw [if_neg c2, if_neg c2, if_neg (by omega)]
      rw [e2]
      exact g_ireturn (fun z => NN_f z) (Nat.le_of_ble_eq_true rfl) (Nat.le_of_ble_eq_true rfl) dX8_kindOf_23 rfl rP_in
  · refine g_iconst (q := 6) dX8_kindOf_5 rfl ?_
    refine g_goto (q := 23) dX8_kindOf_6 rfl ?_
    have e2 : knd n u = 0 := by unfold knd; rw [if_pos c2]
    rw [e2]
    exact g_ireturn (fun z => NN_f z) (Nat.le_of_ble_eq_true rfl) (Nat.le_of_ble_eq_true rfl) dX8_kindOf_23 rfl rP_in
set_option maxRecDepth 4000 in
theorem t_X8_sizeOf (l : Launch) (h : EHp) (i : Nat) (c : Int) (f : Int → Int) (hD : MDoc h i c f) (s e : Int) (s0 : 0 ≤ s) (se : s < e) (ec : e ≤ c) : CT l mX8_sizeOf 3 0 0 [.ref (90), .int (iI (i)), .int (iI (s)), .int (iI (e))] NN h (rP (.int (iI (psz f s e))) h) := by
  obtain ⟨th, sl, w, hA, hw, hi, hc, hO, hd⟩ := id hD
  obtain ⟨o1, o2, o3, o4⟩ := id hO
  have g := hO.wid s0 se ec
  have pk := psz_knd (ds := f) (s := s) (e := e)
  have ew : wd f s e = f (e - 1) - f s + 1 := rfl
  have kr := knd_rng (n := e - s) (u := wd f s e)
  refine CT.of (by decide) (Nat.le_of_ble_eq_true rfl) ?_
  refine g_al (al2 := [some (.ref (90)), some (.int (iI (i))), some (.int (iI (s))), some (.int (iI (e))), none, none]) rfl ?_
  refine g_aload_n (q := 1) rfl rfl dX8_sizeOf_0 rfl ?_
  refine g_iload_n (q := 2) rfl rfl dX8_sizeOf_1 rfl ?_
  refine g_iload_n (q := 3) rfl rfl dX8_sizeOf_2 rfl ?_
  refine g_iconst (q := 4) dX8_sizeOf_3 rfl ?_
  refine g_isub (q := 5) dX8_sizeOf_4 rfl ?_
  refine g_Vr (q := 8) (d' := 0) (i := 90) (av := [.int (iI (i)), .int (iI (e - 1))]) (st := []) (v := .int (iI (f (e - 1)))) kvX8_56 (t_X8_doc l h i c f hD (e - 1) (by omega) (by omega)) (by decide) hA rfl (Nat.le_of_ble_eq_true rfl) ⟨(Nat.le_of_ble_eq_true rfl), (Nat.le_of_ble_eq_true rfl)⟩ ⟨(Nat.le_of_ble_eq_true rfl), (Nat.le_of_ble_eq_true rfl)⟩ rfl rfl dX8_sizeOf_5 rfl ?_
  refine g_aload_n (q := 9) rfl rfl dX8_sizeOf_8 rfl ?_
  refine g_iload_n (q := 10) rfl rfl dX8_sizeOf_9 rfl ?_
  refine g_iload_n (q := 11) rfl rfl dX8_sizeOf_10 rfl ?_
  refine g_Vr (q := 14) (d' := 0) (i := 90) (av := [.int (iI (i)), .int (iI (s))]) (st := [.int (iI (f (e - 1)))]) (v := .int (iI (f s))) kvX8_56 (t_X8_doc l h i c f hD s (by omega) (by omega)) (by decide) hA rfl (Nat.le_of_ble_eq_true rfl) ⟨(Nat.le_of_ble_eq_true rfl), (Nat.le_of_ble_eq_true rfl)⟩ ⟨(Nat.le_of_ble_eq_true rfl), (Nat.le_of_ble_eq_true rfl)⟩ rfl rfl dX8_sizeOf_11 rfl ?_
  refine g_isub (q := 15) dX8_sizeOf_14 rfl ?_
  refine g_iconst (q := 16) dX8_sizeOf_15 rfl ?_
  refine g_iadd (q := 17) dX8_sizeOf_16 rfl ?_
  refine g_istore (q := 19) (al2 := [some (.ref (90)), some (.int (iI (i))), some (.int (iI (s))), some (.int (iI (e))), some (.int (iI (((f (e - 1)) - (f s)) + 1))), none]) (by decide) rfl rfl dX8_sizeOf_17 rfl ?_
  refine g_iload_n (q := 20) rfl rfl dX8_sizeOf_19 rfl ?_
  refine g_iload_n (q := 21) rfl rfl dX8_sizeOf_20 rfl ?_
  refine g_isub (q := 22) dX8_sizeOf_21 rfl ?_
  refine g_iload (q := 24) rfl dX8_sizeOf_22 rfl ?_
  refine g_Sr (q := 27) (d' := 2) (av := [.int (iI (e - s)), .int (iI (((f (e - 1)) - (f s)) + 1))]) (st := []) (v := .int (iI (knd (e - s) (wd f s e)))) ksX8_88 (t_X8_kindOf l (e - s) (f (e - 1) - f s + 1) (by omega) (by omega) (by omega) (by omega) h) rfl (Nat.le_of_ble_eq_true rfl) ⟨(Nat.le_of_ble_eq_true rfl), (Nat.le_of_ble_eq_true rfl)⟩ ⟨(Nat.le_of_ble_eq_true rfl), (Nat.le_of_ble_eq_true rfl)⟩ rfl rfl dX8_sizeOf_24 rfl ?_
  refine g_istore (q := 29) (al2 := [some (.ref (90)), some (.int (iI (i))), some (.int (iI (s))), some (.int (iI (e))), some (.int (iI (((f (e - 1)) - (f s)) + 1))), some (.int (iI (knd (e - s) (wd f s e))))]) (by decide) rfl rfl dX8_sizeOf_27 rfl ?_
  refine g_bipush (q := 31) (by decide) dX8_sizeOf_29 rfl ?_
  refine g_iload (q := 33) rfl dX8_sizeOf_31 rfl ?_
  refine g_if_ne (t := 40) (q := 36) ⟨by omega, by omega⟩ dX8_sizeOf_33 rfl rfl (fun c33 => ?_) (fun c33 => ?_)
  · refine g_iload (q := 42) rfl dX8_sizeOf_40 rfl ?_
    refine g_iconst (q := 43) dX8_sizeOf_42 rfl ?_
    refine g_icmp_ne (t := 51) (q := 46) ⟨by omega, by omega⟩ ⟨by omega, by omega⟩ dX8_sizeOf_43 rfl rfl (fun c43 => ?_) (fun c43 => ?_)
    · refine g_iload_n (q := 52) rfl rfl dX8_sizeOf_51 rfl ?_
      refine g_iload_n (q := 53) rfl rfl dX8_sizeOf_52 rfl ?_
      refine g_isub (q := 54) dX8_sizeOf_53 rfl ?_
      refine g_iload (q := 56) rfl dX8_sizeOf_54 rfl ?_
      refine g_Sr (q := 59) (d' := 1) (av := [.int (iI (e - s)), .int (iI (((f (e - 1)) - (f s)) + 1))]) (st := [.int (iI (26))]) (v := .int (iI (ef (e - s) (wd f s e)))) ksX8_85 (t_X8_sparse l (e - s) (f (e - 1) - f s + 1) (by omega) (by omega) (by omega) (by omega) h) rfl (Nat.le_of_ble_eq_true rfl) ⟨(Nat.le_of_ble_eq_true rfl), (Nat.le_of_ble_eq_true rfl)⟩ ⟨(Nat.le_of_ble_eq_true rfl), (Nat.le_of_ble_eq_true rfl)⟩ rfl rfl dX8_sizeOf_56 rfl ?_
      refine g_iadd (q := 60) dX8_sizeOf_59 rfl ?_
      rw [show 26 + ef (e - s) (wd f s e) = psz f s e by omega]
      exact g_ireturn (fun z => NN_f z) (Nat.le_of_ble_eq_true rfl) (Nat.le_of_ble_eq_true rfl) dX8_sizeOf_60 rfl rP_in
    · refine g_iload (q := 48) rfl dX8_sizeOf_46 rfl ?_
      refine g_goto (q := 59) dX8_sizeOf_48 rfl ?_
      refine g_iadd (q := 60) dX8_sizeOf_59 rfl ?_
      rw [show 26 + (f (e - 1) - f s + 1) = psz f s e by omega]
      exact g_ireturn (fun z => NN_f z) (Nat.le_of_ble_eq_true rfl) (Nat.le_of_ble_eq_true rfl) dX8_sizeOf_60 rfl rP_in
  · refine g_iconst (q := 37) dX8_sizeOf_36 rfl ?_
    refine g_goto (q := 59) dX8_sizeOf_37 rfl ?_
    refine g_iadd (q := 60) dX8_sizeOf_59 rfl ?_
    rw [show (26 : Int) + 0 = psz f s e by omega]
    exact g_ireturn (fun z => NN_f z) (Nat.le_of_ble_eq_true rfl) (Nat.le_of_ble_eq_true rfl) dX8_sizeOf_60 rfl rP_in
set_option maxRecDepth 4000 in
theorem t_X8_beginOf (l : Launch) (h : EHp) (i : Nat) (c : Int) (f : Int → Int) (hL : MLay h i c f) (k : Nat) (hk : k ≤ pn c f) : CT l mX8_beginOf 0 0 0 [.ref (90), .int (iI (i)), .int (iI (k))] NN h (rP (.int (iI (pb c f k))) h) := by
  have hD := hL.1
  obtain ⟨bg, mn, hb, hm, em, hbg⟩ := hL.2
  obtain ⟨th, sl, w, hA, hw, hi, hc, hO, hd⟩ := id hD
  obtain ⟨o1, o2, o3, o4⟩ := id hO
  have p6 := pn_64 hO
  refine CT.of (by decide) (Nat.le_of_ble_eq_true rfl) ?_
  refine g_al (al2 := [some (.ref (90)), some (.int (iI (i))), some (.int (iI (k)))]) rfl ?_
  refine g_aload_n (q := 1) rfl rfl dX8_beginOf_0 rfl ?_
  refine g_get (q := 4) fX8_16r (by decide) hA rfl dX8_beginOf_1 rfl ?_
  refine g_bipush (q := 6) (by decide) dX8_beginOf_4 rfl ?_
  refine g_iload_n (q := 7) rfl rfl dX8_beginOf_6 rfl ?_
  refine g_imul (q := 8) dX8_beginOf_7 rfl ?_
  refine g_iload_n (q := 9) rfl rfl dX8_beginOf_8 rfl ?_
  refine g_iadd (q := 10) dX8_beginOf_9 rfl ?_
  refine g_iaload (q := 11) (by decide) hb (by omega) (by omega) (by decide) dX8_beginOf_10 rfl ?_
  rw [hbg k hk]
  exact g_ireturn (fun z => NN_f z) (Nat.le_of_ble_eq_true rfl) (Nat.le_of_ble_eq_true rfl) dX8_beginOf_11 rfl rP_in
set_option maxRecDepth 4000 in
theorem t_X8_documentsIn (l : Launch) (h : EHp) (i : Nat) (c : Int) (f : Int → Int) (hL : MLay h i c f) (k : Nat) (hk : k < pn c f) : CT l mX8_documentsIn 1 0 0 [.ref (90), .int (iI (i)), .int (iI (k))] NN h (rP (.int (iI (pb c f (k + 1) - pb c f k))) h) := by
  have hD := hL.1
  obtain ⟨bg, mn, hb, hm, em, hbg⟩ := hL.2
  obtain ⟨th, sl, w, hA, hw, hi, hc, hO, hd⟩ := id hD
  obtain ⟨o1, o2, o3, o4⟩ := id hO
  have p6 := pn_64 hO
  obtain ⟨k0, k1, k2⟩ := hL.pb hk
  have g := hO.wid k0 k1 k2
  refine CT.of (by decide) (Nat.le_of_ble_eq_true rfl) ?_
  refine g_al (al2 := [some (.ref (90)), some (.int (iI (i))), some (.int (iI (k)))]) rfl ?_
  refine g_aload_n (q := 1) rfl rfl dX8_documentsIn_0 rfl ?_
  refine g_iload_n (q := 2) rfl rfl dX8_documentsIn_1 rfl ?_
  refine g_iload_n (q := 3) rfl rfl dX8_documentsIn_2 rfl ?_
  refine g_iconst (q := 4) dX8_documentsIn_3 rfl ?_
  refine g_iadd (q := 5) dX8_documentsIn_4 rfl ?_
  refine g_Vr (q := 8) (d' := 0) (i := 90) (av := [.int (iI (i)), .int (iI (k + 1))]) (st := []) (v := .int (iI (pb c f (k + 1)))) kvX8_96 (by have := t_X8_beginOf l h i c f hL (k + 1) (by omega); rw [show ((k + 1 : Nat) : Int) = (k : Int) + 1 by omega] at this; exact this) (by decide) hA rfl (Nat.le_of_ble_eq_true rfl) ⟨(Nat.le_of_ble_eq_true rfl), (Nat.le_of_ble_eq_true rfl)⟩ ⟨(Nat.le_of_ble_eq_true rfl), (Nat.le_of_ble_eq_true rfl)⟩ rfl rfl dX8_documentsIn_5 rfl ?_
  refine g_aload_n (q := 9) rfl rfl dX8_documentsIn_8 rfl ?_
  refine g_iload_n (q := 10) rfl rfl dX8_documentsIn_9 rfl ?_
  refine g_iload_n (q := 11) rfl rfl dX8_documentsIn_10 rfl ?_
  refine g_Vr (q := 14) (d' := 0) (i := 90) (av := [.int (iI (i)), .int (iI (k))]) (st := [.int (iI (pb c f (k + 1)))]) (v := .int (iI (pb c f k))) kvX8_96 (t_X8_beginOf l h i c f hL k (by omega)) (by decide) hA rfl (Nat.le_of_ble_eq_true rfl) ⟨(Nat.le_of_ble_eq_true rfl), (Nat.le_of_ble_eq_true rfl)⟩ ⟨(Nat.le_of_ble_eq_true rfl), (Nat.le_of_ble_eq_true rfl)⟩ rfl rfl dX8_documentsIn_11 rfl ?_
  refine g_isub (q := 15) dX8_documentsIn_14 rfl ?_
  exact g_ireturn (fun z => NN_f z) (Nat.le_of_ble_eq_true rfl) (Nat.le_of_ble_eq_true rfl) dX8_documentsIn_15 rfl rP_in
set_option maxRecDepth 4000 in
theorem t_X8_firstIn (l : Launch) (h : EHp) (i : Nat) (c : Int) (f : Int → Int) (hL : MLay h i c f) (k : Nat) (hk : k < pn c f) : CT l mX8_firstIn 1 0 0 [.ref (90), .int (iI (i)), .int (iI (k))] NN h (rP (.int (iI (f (pb c f k)))) h) := by
  have hD := hL.1
  obtain ⟨bg, mn, hb, hm, em, hbg⟩ := hL.2
  obtain ⟨th, sl, w, hA, hw, hi, hc, hO, hd⟩ := id hD
  obtain ⟨o1, o2, o3, o4⟩ := id hO
  have p6 := pn_64 hO
  obtain ⟨k0, k1, k2⟩ := hL.pb hk
  have g := hO.wid k0 k1 k2
  refine CT.of (by decide) (Nat.le_of_ble_eq_true rfl) ?_
  refine g_al (al2 := [some (.ref (90)), some (.int (iI (i))), some (.int (iI (k)))]) rfl ?_
  refine g_aload_n (q := 1) rfl rfl dX8_firstIn_0 rfl ?_
  refine g_iload_n (q := 2) rfl rfl dX8_firstIn_1 rfl ?_
  refine g_aload_n (q := 3) rfl rfl dX8_firstIn_2 rfl ?_
  refine g_iload_n (q := 4) rfl rfl dX8_firstIn_3 rfl ?_
  refine g_iload_n (q := 5) rfl rfl dX8_firstIn_4 rfl ?_
  refine g_Vr (q := 8) (d' := 0) (i := 90) (av := [.int (iI (i)), .int (iI (k))]) (st := [.int (iI (i)), .ref (90)]) (v := .int (iI (pb c f k))) kvX8_96 (t_X8_beginOf l h i c f hL k (by omega)) (by decide) hA rfl (Nat.le_of_ble_eq_true rfl) ⟨(Nat.le_of_ble_eq_true rfl), (Nat.le_of_ble_eq_true rfl)⟩ ⟨(Nat.le_of_ble_eq_true rfl), (Nat.le_of_ble_eq_true rfl)⟩ rfl rfl dX8_firstIn_5 rfl ?_
  refine g_Vr (q := 11) (d' := 0) (i := 90) (av := [.int (iI (i)), .int (iI (pb c f k))]) (st := []) (v := .int (iI (f (pb c f k)))) kvX8_56 (t_X8_doc l h i c f hD (pb c f k) (by omega) (by omega)) (by decide) hA rfl (Nat.le_of_ble_eq_true rfl) ⟨(Nat.le_of_ble_eq_true rfl), (Nat.le_of_ble_eq_true rfl)⟩ ⟨(Nat.le_of_ble_eq_true rfl), (Nat.le_of_ble_eq_true rfl)⟩ rfl rfl dX8_firstIn_8 rfl ?_
  exact g_ireturn (fun z => NN_f z) (Nat.le_of_ble_eq_true rfl) (Nat.le_of_ble_eq_true rfl) dX8_firstIn_11 rfl rP_in
set_option maxRecDepth 4000 in
theorem t_X8_lastIn (l : Launch) (h : EHp) (i : Nat) (c : Int) (f : Int → Int) (hL : MLay h i c f) (k : Nat) (hk : k < pn c f) : CT l mX8_lastIn 1 0 0 [.ref (90), .int (iI (i)), .int (iI (k))] NN h (rP (.int (iI (f (pb c f (k + 1) - 1)))) h) := by
  have hD := hL.1
  obtain ⟨bg, mn, hb, hm, em, hbg⟩ := hL.2
  obtain ⟨th, sl, w, hA, hw, hi, hc, hO, hd⟩ := id hD
  obtain ⟨o1, o2, o3, o4⟩ := id hO
  have p6 := pn_64 hO
  obtain ⟨k0, k1, k2⟩ := hL.pb hk
  have g := hO.wid k0 k1 k2
  refine CT.of (by decide) (Nat.le_of_ble_eq_true rfl) ?_
  refine g_al (al2 := [some (.ref (90)), some (.int (iI (i))), some (.int (iI (k)))]) rfl ?_
  refine g_aload_n (q := 1) rfl rfl dX8_lastIn_0 rfl ?_
  refine g_iload_n (q := 2) rfl rfl dX8_lastIn_1 rfl ?_
  refine g_aload_n (q := 3) rfl rfl dX8_lastIn_2 rfl ?_
  refine g_iload_n (q := 4) rfl rfl dX8_lastIn_3 rfl ?_
  refine g_iload_n (q := 5) rfl rfl dX8_lastIn_4 rfl ?_
  refine g_iconst (q := 6) dX8_lastIn_5 rfl ?_
  refine g_iadd (q := 7) dX8_lastIn_6 rfl ?_
  refine g_Vr (q := 10) (d' := 0) (i := 90) (av := [.int (iI (i)), .int (iI (k + 1))]) (st := [.int (iI (i)), .ref (90)]) (v := .int (iI (pb c f (k + 1)))) kvX8_96 (by have := t_X8_beginOf l h i c f hL (k + 1) (by omega); rw [show ((k + 1 : Nat) : Int) = (k : Int) + 1 by omega] at this; exact this) (by decide) hA rfl (Nat.le_of_ble_eq_true rfl) ⟨(Nat.le_of_ble_eq_true rfl), (Nat.le_of_ble_eq_true rfl)⟩ ⟨(Nat.le_of_ble_eq_true rfl), (Nat.le_of_ble_eq_true rfl)⟩ rfl rfl dX8_lastIn_7 rfl ?_
  refine g_iconst (q := 11) dX8_lastIn_10 rfl ?_
  refine g_isub (q := 12) dX8_lastIn_11 rfl ?_
  refine g_Vr (q := 15) (d' := 0) (i := 90) (av := [.int (iI (i)), .int (iI ((pb c f (k + 1)) - 1))]) (st := []) (v := .int (iI (f (pb c f (k + 1) - 1)))) kvX8_56 (t_X8_doc l h i c f hD (pb c f (k + 1) - 1) (by omega) (by omega)) (by decide) hA rfl (Nat.le_of_ble_eq_true rfl) ⟨(Nat.le_of_ble_eq_true rfl), (Nat.le_of_ble_eq_true rfl)⟩ ⟨(Nat.le_of_ble_eq_true rfl), (Nat.le_of_ble_eq_true rfl)⟩ rfl rfl dX8_lastIn_12 rfl ?_
  exact g_ireturn (fun z => NN_f z) (Nat.le_of_ble_eq_true rfl) (Nat.le_of_ble_eq_true rfl) dX8_lastIn_15 rfl rP_in
set_option maxRecDepth 4000 in
theorem t_X8_widthOf (l : Launch) (h : EHp) (i : Nat) (c : Int) (f : Int → Int) (hL : MLay h i c f) (k : Nat) (hk : k < pn c f) : CT l mX8_widthOf 2 0 0 [.ref (90), .int (iI (i)), .int (iI (k))] NN h (rP (.int (iI (wd f (pb c f k) (pb c f (k + 1))))) h) := by
  have hD := hL.1
  obtain ⟨bg, mn, hb, hm, em, hbg⟩ := hL.2
  obtain ⟨th, sl, w, hA, hw, hi, hc, hO, hd⟩ := id hD
  obtain ⟨o1, o2, o3, o4⟩ := id hO
  have p6 := pn_64 hO
  obtain ⟨k0, k1, k2⟩ := hL.pb hk
  have g := hO.wid k0 k1 k2
  refine CT.of (by decide) (Nat.le_of_ble_eq_true rfl) ?_
  refine g_al (al2 := [some (.ref (90)), some (.int (iI (i))), some (.int (iI (k)))]) rfl ?_
  refine g_aload_n (q := 1) rfl rfl dX8_widthOf_0 rfl ?_
  refine g_iload_n (q := 2) rfl rfl dX8_widthOf_1 rfl ?_
  refine g_iload_n (q := 3) rfl rfl dX8_widthOf_2 rfl ?_
  refine g_Vr (q := 6) (d' := 1) (i := 90) (av := [.int (iI (i)), .int (iI (k))]) (st := []) (v := .int (iI (f (pb c f (k + 1) - 1)))) kvX8_99 (t_X8_lastIn l h i c f hL k hk) (by decide) hA rfl (Nat.le_of_ble_eq_true rfl) ⟨(Nat.le_of_ble_eq_true rfl), (Nat.le_of_ble_eq_true rfl)⟩ ⟨(Nat.le_of_ble_eq_true rfl), (Nat.le_of_ble_eq_true rfl)⟩ rfl rfl dX8_widthOf_3 rfl ?_
  refine g_aload_n (q := 7) rfl rfl dX8_widthOf_6 rfl ?_
  refine g_iload_n (q := 8) rfl rfl dX8_widthOf_7 rfl ?_
  refine g_iload_n (q := 9) rfl rfl dX8_widthOf_8 rfl ?_
  refine g_Vr (q := 12) (d' := 1) (i := 90) (av := [.int (iI (i)), .int (iI (k))]) (st := [.int (iI (f (pb c f (k + 1) - 1)))]) (v := .int (iI (f (pb c f k)))) kvX8_102 (t_X8_firstIn l h i c f hL k hk) (by decide) hA rfl (Nat.le_of_ble_eq_true rfl) ⟨(Nat.le_of_ble_eq_true rfl), (Nat.le_of_ble_eq_true rfl)⟩ ⟨(Nat.le_of_ble_eq_true rfl), (Nat.le_of_ble_eq_true rfl)⟩ rfl rfl dX8_widthOf_9 rfl ?_
  refine g_isub (q := 13) dX8_widthOf_12 rfl ?_
  refine g_iconst (q := 14) dX8_widthOf_13 rfl ?_
  refine g_iadd (q := 15) dX8_widthOf_14 rfl ?_
  exact g_ireturn (fun z => NN_f z) (Nat.le_of_ble_eq_true rfl) (Nat.le_of_ble_eq_true rfl) dX8_widthOf_15 rfl rP_in
set_option maxRecDepth 4000 in
theorem t_X8_kindIn (l : Launch) (h : EHp) (i : Nat) (c : Int) (f : Int → Int) (hL : MLay h i c f) (k : Nat) (hk : k < pn c f) : CT l mX8_kindIn 3 0 0 [.ref (90), .int (iI (i)), .int (iI (k))] NN h (rP (.int (iI (knd (pb c f (k + 1) - pb c f k) (wd f (pb c f k) (pb c f (k + 1)))))) h) := by
  have hD := hL.1
  obtain ⟨bg, mn, hb, hm, em, hbg⟩ := hL.2
  obtain ⟨th, sl, w, hA, hw, hi, hc, hO, hd⟩ := id hD
  obtain ⟨o1, o2, o3, o4⟩ := id hO
  have p6 := pn_64 hO
  obtain ⟨k0, k1, k2⟩ := hL.pb hk
  have g := hO.wid k0 k1 k2
  have ew : wd f (pb c f k) (pb c f (k + 1)) = f (pb c f (k + 1) - 1) - f (pb c f k) + 1 := rfl
  refine CT.of (by decide) (Nat.le_of_ble_eq_true rfl) ?_
  refine g_al (al2 := [some (.ref (90)), some (.int (iI (i))), some (.int (iI (k)))]) rfl ?_
  refine g_aload_n (q := 1) rfl rfl dX8_kindIn_0 rfl ?_
  refine g_iload_n (q := 2) rfl rfl dX8_kindIn_1 rfl ?_
  refine g_iload_n (q := 3) rfl rfl dX8_kindIn_2 rfl ?_
  refine g_Vr (q := 6) (d' := 1) (i := 90) (av := [.int (iI (i)), .int (iI (k))]) (st := []) (v := .int (iI (pb c f (k + 1) - pb c f k))) kvX8_105 (t_X8_documentsIn l h i c f hL k hk) (by decide) hA rfl (Nat.le_of_ble_eq_true rfl) ⟨(Nat.le_of_ble_eq_true rfl), (Nat.le_of_ble_eq_true rfl)⟩ ⟨(Nat.le_of_ble_eq_true rfl), (Nat.le_of_ble_eq_true rfl)⟩ rfl rfl dX8_kindIn_3 rfl ?_
  refine g_aload_n (q := 7) rfl rfl dX8_kindIn_6 rfl ?_
  refine g_iload_n (q := 8) rfl rfl dX8_kindIn_7 rfl ?_
  refine g_iload_n (q := 9) rfl rfl dX8_kindIn_8 rfl ?_
  refine g_Vr (q := 12) (d' := 2) (i := 90) (av := [.int (iI (i)), .int (iI (k))]) (st := [.int (iI (pb c f (k + 1) - pb c f k))]) (v := .int (iI (wd f (pb c f k) (pb c f (k + 1))))) kvX8_108 (t_X8_widthOf l h i c f hL k hk) (by decide) hA rfl (Nat.le_of_ble_eq_true rfl) ⟨(Nat.le_of_ble_eq_true rfl), (Nat.le_of_ble_eq_true rfl)⟩ ⟨(Nat.le_of_ble_eq_true rfl), (Nat.le_of_ble_eq_true rfl)⟩ rfl rfl dX8_kindIn_9 rfl ?_
  refine g_Sr (q := 15) (d' := 2) (av := [.int (iI (pb c f (k + 1) - pb c f k)), .int (iI (wd f (pb c f k) (pb c f (k + 1))))]) (st := []) (v := .int (iI (knd (pb c f (k + 1) - pb c f k) (wd f (pb c f k) (pb c f (k + 1)))))) ksX8_88 (t_X8_kindOf l (pb c f (k + 1) - pb c f k) (wd f (pb c f k) (pb c f (k + 1))) (by omega) (by omega) (by omega) (by omega) h) rfl (Nat.le_of_ble_eq_true rfl) ⟨(Nat.le_of_ble_eq_true rfl), (Nat.le_of_ble_eq_true rfl)⟩ ⟨(Nat.le_of_ble_eq_true rfl), (Nat.le_of_ble_eq_true rfl)⟩ rfl rfl dX8_kindIn_12 rfl ?_
  exact g_ireturn (fun z => NN_f z) (Nat.le_of_ble_eq_true rfl) (Nat.le_of_ble_eq_true rfl) dX8_kindIn_15 rfl rP_in
set_option maxRecDepth 4000 in
theorem t_X8_lowIn (l : Launch) (h : EHp) (i : Nat) (c : Int) (f : Int → Int) (hL : MLay h i c f) (k : Nat) (hk : k < pn c f) : CT l mX8_lowIn 4 0 0 [.ref (90), .int (iI (i)), .int (iI (k))] NN h (rP (.int (iI (fct f (pb c f k) (pb c f (k + 1)) 5))) h) := by
  have hD := hL.1
  obtain ⟨bg, mn, hb, hm, em, hbg⟩ := hL.2
  obtain ⟨th, sl, w, hA, hw, hi, hc, hO, hd⟩ := id hD
  obtain ⟨o1, o2, o3, o4⟩ := id hO
  have p6 := pn_64 hO
  obtain ⟨k0, k1, k2⟩ := hL.pb hk
  have g := hO.wid k0 k1 k2
  have ew : wd f (pb c f k) (pb c f (k + 1)) = f (pb c f (k + 1) - 1) - f (pb c f k) + 1 := rfl
  have kr := knd_rng (n := pb c f (k + 1) - pb c f k) (u := wd f (pb c f k) (pb c f (k + 1)))
  have f5 : fct f (pb c f k) (pb c f (k + 1)) 5 = (if knd (pb c f (k + 1) - pb c f k) (wd f (pb c f k) (pb c f (k + 1))) = 2 then lb (pb c f (k + 1) - pb c f k) (wd f (pb c f k) (pb c f (k + 1))) else 0) := rfl
  refine CT.of (by decide) (Nat.le_of_ble_eq_true rfl) ?_
  refine g_al (al2 := [some (.ref (90)), some (.int (iI (i))), some (.int (iI (k)))]) rfl ?_
  refine g_aload_n (q := 1) rfl rfl dX8_lowIn_0 rfl ?_
  refine g_iload_n (q := 2) rfl rfl dX8_lowIn_1 rfl ?_
  refine g_iload_n (q := 3) rfl rfl dX8_lowIn_2 rfl ?_
  refine g_Vr (q := 6) (d' := 3) (i := 90) (av := [.int (iI (i)), .int (iI (k))]) (st := []) (v := .int (iI (knd (pb c f (k + 1) - pb c f k) (wd f (pb c f k) (pb c f (k + 1)))))) kvX8_111 (t_X8_kindIn l h i c f hL k hk) (by decide) hA rfl (Nat.le_of_ble_eq_true rfl) ⟨(Nat.le_of_ble_eq_true rfl), (Nat.le_of_ble_eq_true rfl)⟩ ⟨(Nat.le_of_ble_eq_true rfl), (Nat.le_of_ble_eq_true rfl)⟩ rfl rfl dX8_lowIn_3 rfl ?_
  refine g_iconst (q := 7) dX8_lowIn_6 rfl ?_
  refine g_icmp_ne (t := 28) (q := 10) ⟨by omega, by omega⟩ ⟨by omega, by omega⟩ dX8_lowIn_7 rfl rfl (fun c7 => ?_) (fun c7 => ?_)
  · refine g_iconst (q := 29) dX8_lowIn_28 rfl ?_
    rw [f5, if_neg (by omega)]
    exact g_ireturn (fun z => NN_f z) (Nat.le_of_ble_eq_true rfl) (Nat.le_of_ble_eq_true rfl) dX8_lowIn_29 rfl rP_in
  · refine g_aload_n (q := 11) rfl rfl dX8_lowIn_10 rfl ?_
    refine g_iload_n (q := 12) rfl rfl dX8_lowIn_11 rfl ?_
    refine g_iload_n (q := 13) rfl rfl dX8_lowIn_12 rfl ?_
    refine g_Vr (q := 16) (d' := 1) (i := 90) (av := [.int (iI (i)), .int (iI (k))]) (st := []) (v := .int (iI (pb c f (k + 1) - pb c f k))) kvX8_105 (t_X8_documentsIn l h i c f hL k hk) (by decide) hA rfl (Nat.le_of_ble_eq_true rfl) ⟨(Nat.le_of_ble_eq_true rfl), (Nat.le_of_ble_eq_true rfl)⟩ ⟨(Nat.le_of_ble_eq_true rfl), (Nat.le_of_ble_eq_true rfl)⟩ rfl rfl dX8_lowIn_13 rfl ?_
    refine g_aload_n (q := 17) rfl rfl dX8_lowIn_16 rfl ?_
    refine g_iload_n (q := 18) rfl rfl dX8_lowIn_17 rfl ?_
    refine g_iload_n (q := 19) rfl rfl dX8_lowIn_18 rfl ?_
    refine g_Vr (q := 22) (d' := 2) (i := 90) (av := [.int (iI (i)), .int (iI (k))]) (st := [.int (iI (pb c f (k + 1) - pb c f k))]) (v := .int (iI (wd f (pb c f k) (pb c f (k + 1))))) kvX8_108 (t_X8_widthOf l h i c f hL k hk) (by decide) hA rfl (Nat.le_of_ble_eq_true rfl) ⟨(Nat.le_of_ble_eq_true rfl), (Nat.le_of_ble_eq_true rfl)⟩ ⟨(Nat.le_of_ble_eq_true rfl), (Nat.le_of_ble_eq_true rfl)⟩ rfl rfl dX8_lowIn_19 rfl ?_
    refine g_Sr (q := 25) (d' := 0) (av := [.int (iI (pb c f (k + 1) - pb c f k)), .int (iI (wd f (pb c f k) (pb c f (k + 1))))]) (st := []) (v := .int (iI (lb (pb c f (k + 1) - pb c f k) (wd f (pb c f k) (pb c f (k + 1)))))) ksX8_82 (t_X8_lowBits l (pb c f (k + 1) - pb c f k) (wd f (pb c f k) (pb c f (k + 1))) (by omega) (by omega) (by omega) (by omega) h) rfl (Nat.le_of_ble_eq_true rfl) ⟨(Nat.le_of_ble_eq_true rfl), (Nat.le_of_ble_eq_true rfl)⟩ ⟨(Nat.le_of_ble_eq_true rfl), (Nat.le_of_ble_eq_true rfl)⟩ rfl rfl dX8_lowIn_22 rfl ?_
    refine g_goto (q := 29) dX8_lowIn_25 rfl ?_
    rw [f5, if_pos (by omega)]
    exact g_ireturn (fun z => NN_f z) (Nat.le_of_ble_eq_true rfl) (Nat.le_of_ble_eq_true rfl) dX8_lowIn_29 rfl rP_in
set_option maxRecDepth 4000 in
theorem t_X8_property (l : Launch) (h : EHp) (i : Nat) (c : Int) (f : Int → Int) (hL : MLay h i c f) (k : Nat) (hk : k < pn c f) (t : Int) (t0 : 0 ≤ t) (t5 : t ≤ 5) : CT l mX8_property 5 0 0 [.ref (90), .int (iI (i)), .int (iI (k)), .int (iI (t))] NN h (rP (.int (iI (fct f (pb c f k) (pb c f (k + 1)) t))) h) := by
  have hD := hL.1
  obtain ⟨bg, mn, hb, hm, em, hbg⟩ := hL.2
  obtain ⟨th, sl, w, hA, hw, hi, hc, hO, hd⟩ := id hD
  obtain ⟨o1, o2, o3, o4⟩ := id hO
  have p6 := pn_64 hO
  obtain ⟨k0, k1, k2⟩ := hL.pb hk
  have g := hO.wid k0 k1 k2
  have ew : wd f (pb c f k) (pb c f (k + 1)) = f (pb c f (k + 1) - 1) - f (pb c f k) + 1 := rfl
  refine CT.of (by decide) (Nat.le_of_ble_eq_true rfl) ?_
  refine g_al (al2 := [some (.ref (90)), some (.int (iI (i))), some (.int (iI (k))), some (.int (iI (t)))]) rfl ?_
  refine g_iload_n (q := 1) rfl rfl dX8_property_0 rfl ?_
  rcases (show t = 0 ∨ t = 1 ∨ t = 2 ∨ t = 3 ∨ t = 4 ∨ t = 5 by omega) with rfl | rfl | rfl | rfl | rfl | rfl
  · refine g_tableIn (q := 36) (by decide) dX8_property_1 (by decide) (by decide) (off := 35) rfl rfl ?_
    refine g_aload_n (q := 37) rfl rfl dX8_property_36 rfl ?_
    refine g_iload_n (q := 38) rfl rfl dX8_property_37 rfl ?_
    refine g_iload_n (q := 39) rfl rfl dX8_property_38 rfl ?_
    refine g_Vr (q := 42) (d' := 3) (i := 90) (av := [.int (iI (i)), .int (iI (k))]) (st := []) (v := .int (iI (knd (pb c f (k + 1) - pb c f k) (wd f (pb c f k) (pb c f (k + 1)))))) kvX8_111 (t_X8_kindIn l h i c f hL k hk) (by decide) hA rfl (Nat.le_of_ble_eq_true rfl) ⟨(Nat.le_of_ble_eq_true rfl), (Nat.le_of_ble_eq_true rfl)⟩ ⟨(Nat.le_of_ble_eq_true rfl), (Nat.le_of_ble_eq_true rfl)⟩ rfl rfl dX8_property_39 rfl ?_
    exact g_ireturn (fun z => NN_f z) (Nat.le_of_ble_eq_true rfl) (Nat.le_of_ble_eq_true rfl) dX8_property_42 rfl rP_in
  · refine g_tableIn (q := 43) (by decide) dX8_property_1 (by decide) (by decide) (off := 42) rfl rfl ?_
    refine g_aload_n (q := 44) rfl rfl dX8_property_43 rfl ?_
    refine g_iload_n (q := 45) rfl rfl dX8_property_44 rfl ?_
    refine g_iload_n (q := 46) rfl rfl dX8_property_45 rfl ?_
    refine g_Vr (q := 49) (d' := 1) (i := 90) (av := [.int (iI (i)), .int (iI (k))]) (st := []) (v := .int (iI (pb c f (k + 1) - pb c f k))) kvX8_105 (t_X8_documentsIn l h i c f hL k hk) (by decide) hA rfl (Nat.le_of_ble_eq_true rfl) ⟨(Nat.le_of_ble_eq_true rfl), (Nat.le_of_ble_eq_true rfl)⟩ ⟨(Nat.le_of_ble_eq_true rfl), (Nat.le_of_ble_eq_true rfl)⟩ rfl rfl dX8_property_46 rfl ?_
    exact g_ireturn (fun z => NN_f z) (Nat.le_of_ble_eq_true rfl) (Nat.le_of_ble_eq_true rfl) dX8_property_49 rfl rP_in
  · refine g_tableIn (q := 50) (by decide) dX8_property_1 (by decide) (by decide) (off := 49) rfl rfl ?_
    refine g_aload_n (q := 51) rfl rfl dX8_property_50 rfl ?_
    refine g_iload_n (q := 52) rfl rfl dX8_property_51 rfl ?_
    refine g_iload_n (q := 53) rfl rfl dX8_property_52 rfl ?_
    refine g_Vr (q := 56) (d' := 1) (i := 90) (av := [.int (iI (i)), .int (iI (k))]) (st := []) (v := .int (iI (f (pb c f k)))) kvX8_102 (t_X8_firstIn l h i c f hL k hk) (by decide) hA rfl (Nat.le_of_ble_eq_true rfl) ⟨(Nat.le_of_ble_eq_true rfl), (Nat.le_of_ble_eq_true rfl)⟩ ⟨(Nat.le_of_ble_eq_true rfl), (Nat.le_of_ble_eq_true rfl)⟩ rfl rfl dX8_property_53 rfl ?_
    exact g_ireturn (fun z => NN_f z) (Nat.le_of_ble_eq_true rfl) (Nat.le_of_ble_eq_true rfl) dX8_property_56 rfl rP_in
  · refine g_tableIn (q := 57) (by decide) dX8_property_1 (by decide) (by decide) (off := 56) rfl rfl ?_
    refine g_aload_n (q := 58) rfl rfl dX8_property_57 rfl ?_
    refine g_iload_n (q := 59) rfl rfl dX8_property_58 rfl ?_
    refine g_iload_n (q := 60) rfl rfl dX8_property_59 rfl ?_
    refine g_Vr (q := 63) (d' := 1) (i := 90) (av := [.int (iI (i)), .int (iI (k))]) (st := []) (v := .int (iI (f (pb c f (k + 1) - 1)))) kvX8_99 (t_X8_lastIn l h i c f hL k hk) (by decide) hA rfl (Nat.le_of_ble_eq_true rfl) ⟨(Nat.le_of_ble_eq_true rfl), (Nat.le_of_ble_eq_true rfl)⟩ ⟨(Nat.le_of_ble_eq_true rfl), (Nat.le_of_ble_eq_true rfl)⟩ rfl rfl dX8_property_60 rfl ?_
    exact g_ireturn (fun z => NN_f z) (Nat.le_of_ble_eq_true rfl) (Nat.le_of_ble_eq_true rfl) dX8_property_63 rfl rP_in
  · refine g_tableIn (q := 64) (by decide) dX8_property_1 (by decide) (by decide) (off := 63) rfl rfl ?_
    refine g_aload_n (q := 65) rfl rfl dX8_property_64 rfl ?_
    refine g_iload_n (q := 66) rfl rfl dX8_property_65 rfl ?_
    refine g_aload_n (q := 67) rfl rfl dX8_property_66 rfl ?_
    refine g_iload_n (q := 68) rfl rfl dX8_property_67 rfl ?_
    refine g_iload_n (q := 69) rfl rfl dX8_property_68 rfl ?_
    refine g_Vr (q := 72) (d' := 0) (i := 90) (av := [.int (iI (i)), .int (iI (k))]) (st := [.int (iI (i)), .ref (90)]) (v := .int (iI (pb c f k))) kvX8_96 (t_X8_beginOf l h i c f hL k (by omega)) (by decide) hA rfl (Nat.le_of_ble_eq_true rfl) ⟨(Nat.le_of_ble_eq_true rfl), (Nat.le_of_ble_eq_true rfl)⟩ ⟨(Nat.le_of_ble_eq_true rfl), (Nat.le_of_ble_eq_true rfl)⟩ rfl rfl dX8_property_69 rfl ?_
    refine g_aload_n (q := 73) rfl rfl dX8_property_72 rfl ?_
    refine g_iload_n (q := 74) rfl rfl dX8_property_73 rfl ?_
    refine g_iload_n (q := 75) rfl rfl dX8_property_74 rfl ?_
    refine g_iconst (q := 76) dX8_property_75 rfl ?_
    refine g_iadd (q := 77) dX8_property_76 rfl ?_
    refine g_Vr (q := 80) (d' := 0) (i := 90) (av := [.int (iI (i)), .int (iI (k + 1))]) (st := [.int (iI (pb c f k)), .int (iI (i)), .ref (90)]) (v := .int (iI (pb c f (k + 1)))) kvX8_96 (by have := t_X8_beginOf l h i c f hL (k + 1) (by omega); rw [show ((k + 1 : Nat) : Int) = (k : Int) + 1 by omega] at this; exact this) (by decide) hA rfl (Nat.le_of_ble_eq_true rfl) ⟨(Nat.le_of_ble_eq_true rfl), (Nat.le_of_ble_eq_true rfl)⟩ ⟨(Nat.le_of_ble_eq_true rfl), (Nat.le_of_ble_eq_true rfl)⟩ rfl rfl dX8_property_77 rfl ?_
    refine g_Vr (q := 83) (d' := 3) (i := 90) (av := [.int (iI (i)), .int (iI (pb c f k)), .int (iI (pb c f (k + 1)))]) (st := []) (v := .int (iI (psz f (pb c f k) (pb c f (k + 1))))) kvX8_92 (t_X8_sizeOf l h i c f hD (pb c f k) (pb c f (k + 1)) (by omega) (by omega) (by omega)) (by decide) hA rfl (Nat.le_of_ble_eq_true rfl) ⟨(Nat.le_of_ble_eq_true rfl), (Nat.le_of_ble_eq_true rfl)⟩ ⟨(Nat.le_of_ble_eq_true rfl), (Nat.le_of_ble_eq_true rfl)⟩ rfl rfl dX8_property_80 rfl ?_
    exact g_ireturn (fun z => NN_f z) (Nat.le_of_ble_eq_true rfl) (Nat.le_of_ble_eq_true rfl) dX8_property_83 rfl rP_in
  · refine g_tableOut (q := 84) (by decide) dX8_property_1 (by decide) rfl ?_
    refine g_aload_n (q := 85) rfl rfl dX8_property_84 rfl ?_
    refine g_iload_n (q := 86) rfl rfl dX8_property_85 rfl ?_
    refine g_iload_n (q := 87) rfl rfl dX8_property_86 rfl ?_
    refine g_Vr (q := 90) (d' := 4) (i := 90) (av := [.int (iI (i)), .int (iI (k))]) (st := []) (v := .int (iI (fct f (pb c f k) (pb c f (k + 1)) 5))) kvX8_117 (t_X8_lowIn l h i c f hL k hk) (by decide) hA rfl (Nat.le_of_ble_eq_true rfl) ⟨(Nat.le_of_ble_eq_true rfl), (Nat.le_of_ble_eq_true rfl)⟩ ⟨(Nat.le_of_ble_eq_true rfl), (Nat.le_of_ble_eq_true rfl)⟩ rfl rfl dX8_property_87 rfl ?_
    exact g_ireturn (fun z => NN_f z) (Nat.le_of_ble_eq_true rfl) (Nat.le_of_ble_eq_true rfl) dX8_property_90 rfl rP_in
