/-! ===== the reference: answers ===== -/
set_option maxRecDepth 4000 in
theorem t_X8_size (l : Launch) (h : EHp) (th : Int) (S : ASt) (sv : List ASt) (hM : MRep h th S sv) (i : Nat) (hi : i < 4) : CT l mX8_size 2 0 0 [.ref (90), .int (iI (i))] NN h (wP (fun v h' => v = .int (iI ((S.1 i).1)) ∧ MRep h' 0 S sv ∧ FrM h h')) := by
  obtain ⟨w, pst, bg, mn, lz, hA, ⟨m1, m2, m3, m4, m5⟩, ⟨⟨cs, s1⟩, ⟨ct, s2⟩, ⟨nx, s3⟩, ⟨fd, s4⟩, ⟨od, s5⟩⟩, hW, hP, hY⟩ := id hM
  obtain ⟨x1, x2, x3⟩ := hW.1 i hi
  obtain ⟨o1, o2, o3, o4⟩ := id x2
  refine CT.of (by decide) (Nat.le_of_ble_eq_true rfl) ?_
  refine g_al (al2 := [some (.ref (90)), some (.int (iI (i)))]) rfl ?_
  refine g_aload_n (q := 1) rfl rfl dX8_size_0 rfl ?_
  refine g_iconst (q := 2) dX8_size_1 rfl ?_
  refine g_put (q := 5) fX8_41 (by decide) hA (Nat.le_of_ble_eq_true rfl) (fun _ _ => rfl) (fun _ _ => rfl) dX8_size_2 rfl ?_
  refine hp_in (fun hh1 ehh1 => ?_)
  have fc2 : hh1 90 = cO 7 [.int (iI (0)), .ref (91), .ref (92), .int (iI (sv.length)), .ref (93), .ref (94), .ref (95), .ref (96), .ref (97), .ref (98), .ref (99), .ref (100)] := by rw [ehh1]; exact ueh_s
  have fc3 : hh1 91 = cI 272 w := by rw [ehh1, ueh_n (by decide)]; exact m1
  refine g_iload_n (q := 6) rfl rfl dX8_size_5 rfl ?_
  have hM0 : MRep hh1 0 S sv := hM.thr fc2 (fun j hj => by rw [ehh1, ueh_n hj])
  have fr0 : ∀ j, j ≠ 90 → hh1 j = h j := fun j hj => by rw [ehh1, ueh_n hj]
  refine g_Sr (q := 9) (d' := 1) (av := [.int (iI (i))]) (st := []) (v := .int (iI (1))) ksX8_60 (t_X8_isList1 l hh1 i (by omega) (by omega)) rfl (Nat.le_of_ble_eq_true rfl) ⟨(Nat.le_of_ble_eq_true rfl), (Nat.le_of_ble_eq_true rfl)⟩ ⟨(Nat.le_of_ble_eq_true rfl), (Nat.le_of_ble_eq_true rfl)⟩ rfl rfl dX8_size_6 rfl ?_
  refine g_if_eq (t := 21) (q := 12) ⟨by omega, by omega⟩ dX8_size_9 rfl rfl (fun c9 => ?_) (fun c9 => ?_)
  · omega
  · refine g_aload_n (q := 13) rfl rfl dX8_size_12 rfl ?_
    refine g_get (q := 16) fX8_7r (by decide) fc2 rfl dX8_size_13 rfl ?_
    refine g_iload_n (q := 17) rfl rfl dX8_size_16 rfl ?_
    refine g_iaload (q := 18) (by decide) fc3 (by omega) (by omega) (by decide) dX8_size_17 rfl ?_
    rw [x1]
    refine g_goto (q := 26) dX8_size_18 rfl ?_
    exact g_ireturn (fun z => NN_f z) (Nat.le_of_ble_eq_true rfl) (Nat.le_of_ble_eq_true rfl) dX8_size_26 rfl (wP_in ⟨rfl, hM0, fun j hj => fr0 j (by omega)⟩)
set_option maxRecDepth 4000 in
theorem f_X8_size (l : Launch) (h : EHp) (th : Int) (S : ASt) (sv : List ASt) (hM : MRep h th S sv) (i : Int) (hi : IR i) (h0 : i < 0 ∨ 4 ≤ i) : CT l mX8_size 2 0 0 [.ref (90), .int (iI (i))] NN h (wP (fun v h' => v = .int (iI 0) ∧ MRep h' 1 S sv ∧ FrM h h')) := by
  obtain ⟨w, pst, bg, mn, lz, hA, ⟨m1, m2, m3, m4, m5⟩, ⟨⟨cs, s1⟩, ⟨ct, s2⟩, ⟨nx, s3⟩, ⟨fd, s4⟩, ⟨od, s5⟩⟩, hW, hP, hY⟩ := id hM
  refine CT.of (by decide) (Nat.le_of_ble_eq_true rfl) ?_
  refine g_al (al2 := [some (.ref (90)), some (.int (iI (i)))]) rfl ?_
  refine g_aload_n (q := 1) rfl rfl dX8_size_0 rfl ?_
  refine g_iconst (q := 2) dX8_size_1 rfl ?_
  refine g_put (q := 5) fX8_41 (by decide) hA (Nat.le_of_ble_eq_true rfl) (fun _ _ => rfl) (fun _ _ => rfl) dX8_size_2 rfl ?_
  refine hp_in (fun hh1 ehh1 => ?_)
  have fc2 : hh1 90 = cO 7 [.int (iI (0)), .ref (91), .ref (92), .int (iI (sv.length)), .ref (93), .ref (94), .ref (95), .ref (96), .ref (97), .ref (98), .ref (99), .ref (100)] := by rw [ehh1]; exact ueh_s
  have fc3 : hh1 91 = cI 272 w := by rw [ehh1, ueh_n (by decide)]; exact m1
  refine g_iload_n (q := 6) rfl rfl dX8_size_5 rfl ?_
  have hM0 : MRep hh1 0 S sv := hM.thr fc2 (fun j hj => by rw [ehh1, ueh_n hj])
  have fr0 : ∀ j, j ≠ 90 → hh1 j = h j := fun j hj => by rw [ehh1, ueh_n hj]
  refine g_Sr (q := 9) (d' := 1) (av := [.int (iI (i))]) (st := []) (v := .int (iI (0))) ksX8_60 (t_X8_isList0 l hh1 i hi (by omega)) rfl (Nat.le_of_ble_eq_true rfl) ⟨(Nat.le_of_ble_eq_true rfl), (Nat.le_of_ble_eq_true rfl)⟩ ⟨(Nat.le_of_ble_eq_true rfl), (Nat.le_of_ble_eq_true rfl)⟩ rfl rfl dX8_size_6 rfl ?_
  refine g_if_eq (t := 21) (q := 12) ⟨by omega, by omega⟩ dX8_size_9 rfl rfl (fun c9 => ?_) (fun c9 => ?_)
  · refine g_aload_n (q := 22) rfl rfl dX8_size_21 rfl ?_
    refine g_iconst (q := 23) dX8_size_22 rfl ?_
    refine g_Vw (q := 26) (d' := 0) (i := 90) (av := [.int (iI (1))]) (st := []) kvX8_64 (t_X8_fails l hh1 0 S sv hM0 1) (by decide) fc2 rfl (Nat.le_of_ble_eq_true rfl) ⟨(Nat.le_of_ble_eq_true rfl), (Nat.le_of_ble_eq_true rfl)⟩ ⟨(Nat.le_of_ble_eq_true rfl), (Nat.le_of_ble_eq_true rfl)⟩ rfl rfl dX8_size_23 rfl (fun v hz hp => ?_)
    obtain ⟨rfl, p1, p2⟩ := hp
    exact g_ireturn (fun z => NN_f z) (Nat.le_of_ble_eq_true rfl) (Nat.le_of_ble_eq_true rfl) dX8_size_26 rfl (wP_in ⟨rfl, p1, fun j hj => (p2 j (by omega)).trans (fr0 j (by omega))⟩)
  · omega
set_option maxRecDepth 4000 in
theorem t_X8_document (l : Launch) (h : EHp) (th : Int) (S : ASt) (sv : List ASt) (hM : MRep h th S sv) (i : Nat) (hi : i < 4) (j : Int) (j0 : 0 ≤ j) (j1 : j < (S.1 i).1) : CT l mX8_document 2 0 0 [.ref (90), .int (iI (i)), .int (iI (j))] NN h (wP (fun v h' => v = .int (iI ((S.1 i).2 j)) ∧ MRep h' 0 S sv ∧ FrM h h')) := by
  obtain ⟨w, pst, bg, mn, lz, hA, ⟨m1, m2, m3, m4, m5⟩, ⟨⟨cs, s1⟩, ⟨ct, s2⟩, ⟨nx, s3⟩, ⟨fd, s4⟩, ⟨od, s5⟩⟩, hW, hP, hY⟩ := id hM
  obtain ⟨x1, x2, x3⟩ := hW.1 i hi
  obtain ⟨o1, o2, o3, o4⟩ := id x2
  refine CT.of (by decide) (Nat.le_of_ble_eq_true rfl) ?_
  refine g_al (al2 := [some (.ref (90)), some (.int (iI (i))), some (.int (iI (j)))]) rfl ?_
  refine g_aload_n (q := 1) rfl rfl dX8_document_0 rfl ?_
  refine g_iconst (q := 2) dX8_document_1 rfl ?_
  refine g_put (q := 5) fX8_41 (by decide) hA (Nat.le_of_ble_eq_true rfl) (fun _ _ => rfl) (fun _ _ => rfl) dX8_document_2 rfl ?_
  refine hp_in (fun hh1 ehh1 => ?_)
  have fc2 : hh1 90 = cO 7 [.int (iI (0)), .ref (91), .ref (92), .int (iI (sv.length)), .ref (93), .ref (94), .ref (95), .ref (96), .ref (97), .ref (98), .ref (99), .ref (100)] := by rw [ehh1]; exact ueh_s
  have fc3 : hh1 91 = cI 272 w := by rw [ehh1, ueh_n (by decide)]; exact m1
  refine g_iload_n (q := 6) rfl rfl dX8_document_5 rfl ?_
  have hM0 : MRep hh1 0 S sv := hM.thr fc2 (fun j hj => by rw [ehh1, ueh_n hj])
  have fr0 : ∀ j, j ≠ 90 → hh1 j = h j := fun j hj => by rw [ehh1, ueh_n hj]
  refine g_Sr (q := 9) (d' := 1) (av := [.int (iI (i))]) (st := []) (v := .int (iI (1))) ksX8_60 (t_X8_isList1 l hh1 i (by omega) (by omega)) rfl (Nat.le_of_ble_eq_true rfl) ⟨(Nat.le_of_ble_eq_true rfl), (Nat.le_of_ble_eq_true rfl)⟩ ⟨(Nat.le_of_ble_eq_true rfl), (Nat.le_of_ble_eq_true rfl)⟩ rfl rfl dX8_document_6 rfl ?_
  refine g_if_eq (t := 37) (q := 12) ⟨by omega, by omega⟩ dX8_document_9 rfl rfl (fun c9 => ?_) (fun c9 => ?_)
  · omega
  · refine g_iload_n (q := 13) rfl rfl dX8_document_12 rfl ?_
    refine g_iconst (q := 14) dX8_document_13 rfl ?_
    refine g_aload_n (q := 15) rfl rfl dX8_document_14 rfl ?_
    refine g_get (q := 18) fX8_7r (by decide) fc2 rfl dX8_document_15 rfl ?_
    refine g_iload_n (q := 19) rfl rfl dX8_document_18 rfl ?_
    refine g_iaload (q := 20) (by decide) fc3 (by omega) (by omega) (by decide) dX8_document_19 rfl ?_
    rw [x1]
    refine g_iconst (q := 21) dX8_document_20 rfl ?_
    refine g_isub (q := 22) dX8_document_21 rfl ?_
    refine g_Sr (q := 25) (d' := 0) (av := [.int (iI (j)), .int (iI (0)), .int (iI (((S.1 i).1) - 1))]) (st := []) (v := .int (iI (1))) ksX8_45 (t_X8_in1 l hh1 (j) (0) ((S.1 i).1 - 1) ⟨by omega, by omega⟩ ⟨by omega, by omega⟩ ⟨by omega, by omega⟩ (by omega) (by omega)) rfl (Nat.le_of_ble_eq_true rfl) ⟨(Nat.le_of_ble_eq_true rfl), (Nat.le_of_ble_eq_true rfl)⟩ ⟨(Nat.le_of_ble_eq_true rfl), (Nat.le_of_ble_eq_true rfl)⟩ rfl rfl dX8_document_22 rfl ?_
    refine g_if_eq (t := 37) (q := 28) ⟨by omega, by omega⟩ dX8_document_25 rfl rfl (fun c25 => ?_) (fun c25 => ?_)
    · omega
    · refine g_aload_n (q := 29) rfl rfl dX8_document_28 rfl ?_
      refine g_iload_n (q := 30) rfl rfl dX8_document_29 rfl ?_
      refine g_iload_n (q := 31) rfl rfl dX8_document_30 rfl ?_
      refine g_Vr (q := 34) (d' := 0) (i := 90) (av := [.int (iI (i)), .int (iI (j))]) (st := []) (v := .int (iI ((S.1 i).2 j))) kvX8_56 (t_X8_doc l hh1 i (S.1 i).1 (S.1 i).2 (hM0.doc hi) j j0 j1) (by decide) fc2 rfl (Nat.le_of_ble_eq_true rfl) ⟨(Nat.le_of_ble_eq_true rfl), (Nat.le_of_ble_eq_true rfl)⟩ ⟨(Nat.le_of_ble_eq_true rfl), (Nat.le_of_ble_eq_true rfl)⟩ rfl rfl dX8_document_31 rfl ?_
      refine g_goto (q := 42) dX8_document_34 rfl ?_
      exact g_ireturn (fun z => NN_f z) (Nat.le_of_ble_eq_true rfl) (Nat.le_of_ble_eq_true rfl) dX8_document_42 rfl (wP_in ⟨rfl, hM0, fun j hj => fr0 j (by omega)⟩)
set_option maxRecDepth 4000 in
theorem f_X8_document (l : Launch) (h : EHp) (th : Int) (S : ASt) (sv : List ASt) (hM : MRep h th S sv) (i : Int) (hi : IR i) (h0 : i < 0 ∨ 4 ≤ i) (j : Int) : CT l mX8_document 2 0 0 [.ref (90), .int (iI (i)), .int (iI (j))] NN h (wP (fun v h' => v = .int (iI 0) ∧ MRep h' 1 S sv ∧ FrM h h')) := by
  obtain ⟨w, pst, bg, mn, lz, hA, ⟨m1, m2, m3, m4, m5⟩, ⟨⟨cs, s1⟩, ⟨ct, s2⟩, ⟨nx, s3⟩, ⟨fd, s4⟩, ⟨od, s5⟩⟩, hW, hP, hY⟩ := id hM
  refine CT.of (by decide) (Nat.le_of_ble_eq_true rfl) ?_
  refine g_al (al2 := [some (.ref (90)), some (.int (iI (i))), some (.int (iI (j)))]) rfl ?_
  refine g_aload_n (q := 1) rfl rfl dX8_document_0 rfl ?_
  refine g_iconst (q := 2) dX8_document_1 rfl ?_
  refine g_put (q := 5) fX8_41 (by decide) hA (Nat.le_of_ble_eq_true rfl) (fun _ _ => rfl) (fun _ _ => rfl) dX8_document_2 rfl ?_
  refine hp_in (fun hh1 ehh1 => ?_)
  have fc2 : hh1 90 = cO 7 [.int (iI (0)), .ref (91), .ref (92), .int (iI (sv.length)), .ref (93), .ref (94), .ref (95), .ref (96), .ref (97), .ref (98), .ref (99), .ref (100)] := by rw [ehh1]; exact ueh_s
  have fc3 : hh1 91 = cI 272 w := by rw [ehh1, ueh_n (by decide)]; exact m1
  refine g_iload_n (q := 6) rfl rfl dX8_document_5 rfl ?_
  have hM0 : MRep hh1 0 S sv := hM.thr fc2 (fun j hj => by rw [ehh1, ueh_n hj])
  have fr0 : ∀ j, j ≠ 90 → hh1 j = h j := fun j hj => by rw [ehh1, ueh_n hj]
  refine g_Sr (q := 9) (d' := 1) (av := [.int (iI (i))]) (st := []) (v := .int (iI (0))) ksX8_60 (t_X8_isList0 l hh1 i hi (by omega)) rfl (Nat.le_of_ble_eq_true rfl) ⟨(Nat.le_of_ble_eq_true rfl), (Nat.le_of_ble_eq_true rfl)⟩ ⟨(Nat.le_of_ble_eq_true rfl), (Nat.le_of_ble_eq_true rfl)⟩ rfl rfl dX8_document_6 rfl ?_
  refine g_if_eq (t := 37) (q := 12) ⟨by omega, by omega⟩ dX8_document_9 rfl rfl (fun c9 => ?_) (fun c9 => ?_)
  · refine g_aload_n (q := 38) rfl rfl dX8_document_37 rfl ?_
    refine g_iconst (q := 39) dX8_document_38 rfl ?_
    refine g_Vw (q := 42) (d' := 0) (i := 90) (av := [.int (iI (1))]) (st := []) kvX8_64 (t_X8_fails l hh1 0 S sv hM0 1) (by decide) fc2 rfl (Nat.le_of_ble_eq_true rfl) ⟨(Nat.le_of_ble_eq_true rfl), (Nat.le_of_ble_eq_true rfl)⟩ ⟨(Nat.le_of_ble_eq_true rfl), (Nat.le_of_ble_eq_true rfl)⟩ rfl rfl dX8_document_39 rfl (fun v hz hp => ?_)
    obtain ⟨rfl, p1, p2⟩ := hp
    exact g_ireturn (fun z => NN_f z) (Nat.le_of_ble_eq_true rfl) (Nat.le_of_ble_eq_true rfl) dX8_document_42 rfl (wP_in ⟨rfl, p1, fun j hj => (p2 j (by omega)).trans (fr0 j (by omega))⟩)
  · omega
set_option maxRecDepth 4000 in
theorem f2_X8_document (l : Launch) (h : EHp) (th : Int) (S : ASt) (sv : List ASt) (hM : MRep h th S sv) (i : Nat) (hi : i < 4) (j : Int) (hj : IR j) (hx : j < 0 ∨ (S.1 i).1 ≤ j) : CT l mX8_document 2 0 0 [.ref (90), .int (iI (i)), .int (iI (j))] NN h (wP (fun v h' => v = .int (iI 0) ∧ MRep h' 1 S sv ∧ FrM h h')) := by
  obtain ⟨w, pst, bg, mn, lz, hA, ⟨m1, m2, m3, m4, m5⟩, ⟨⟨cs, s1⟩, ⟨ct, s2⟩, ⟨nx, s3⟩, ⟨fd, s4⟩, ⟨od, s5⟩⟩, hW, hP, hY⟩ := id hM
  obtain ⟨x1, x2, x3⟩ := hW.1 i hi
  obtain ⟨o1, o2, o3, o4⟩ := id x2
  refine CT.of (by decide) (Nat.le_of_ble_eq_true rfl) ?_
  refine g_al (al2 := [some (.ref (90)), some (.int (iI (i))), some (.int (iI (j)))]) rfl ?_
  refine g_aload_n (q := 1) rfl rfl dX8_document_0 rfl ?_
  refine g_iconst (q := 2) dX8_document_1 rfl ?_
  refine g_put (q := 5) fX8_41 (by decide) hA (Nat.le_of_ble_eq_true rfl) (fun _ _ => rfl) (fun _ _ => rfl) dX8_document_2 rfl ?_
  refine hp_in (fun hh1 ehh1 => ?_)
  have fc2 : hh1 90 = cO 7 [.int (iI (0)), .ref (91), .ref (92), .int (iI (sv.length)), .ref (93), .ref (94), .ref (95), .ref (96), .ref (97), .ref (98), .ref (99), .ref (100)] := by rw [ehh1]; exact ueh_s
  have fc3 : hh1 91 = cI 272 w := by rw [ehh1, ueh_n (by decide)]; exact m1
  refine g_iload_n (q := 6) rfl rfl dX8_document_5 rfl ?_
  have hM0 : MRep hh1 0 S sv := hM.thr fc2 (fun j hj => by rw [ehh1, ueh_n hj])
  have fr0 : ∀ j, j ≠ 90 → hh1 j = h j := fun j hj => by rw [ehh1, ueh_n hj]
  refine g_Sr (q := 9) (d' := 1) (av := [.int (iI (i))]) (st := []) (v := .int (iI (1))) ksX8_60 (t_X8_isList1 l hh1 i (by omega) (by omega)) rfl (Nat.le_of_ble_eq_true rfl) ⟨(Nat.le_of_ble_eq_true rfl), (Nat.le_of_ble_eq_true rfl)⟩ ⟨(Nat.le_of_ble_eq_true rfl), (Nat.le_of_ble_eq_true rfl)⟩ rfl rfl dX8_document_6 rfl ?_
  refine g_if_eq (t := 37) (q := 12) ⟨by omega, by omega⟩ dX8_document_9 rfl rfl (fun c9 => ?_) (fun c9 => ?_)
  · omega
  · refine g_iload_n (q := 13) rfl rfl dX8_document_12 rfl ?_
    refine g_iconst (q := 14) dX8_document_13 rfl ?_
    refine g_aload_n (q := 15) rfl rfl dX8_document_14 rfl ?_
    refine g_get (q := 18) fX8_7r (by decide) fc2 rfl dX8_document_15 rfl ?_
    refine g_iload_n (q := 19) rfl rfl dX8_document_18 rfl ?_
    refine g_iaload (q := 20) (by decide) fc3 (by omega) (by omega) (by decide) dX8_document_19 rfl ?_
    rw [x1]
    refine g_iconst (q := 21) dX8_document_20 rfl ?_
    refine g_isub (q := 22) dX8_document_21 rfl ?_
    refine g_Sr (q := 25) (d' := 0) (av := [.int (iI (j)), .int (iI (0)), .int (iI (((S.1 i).1) - 1))]) (st := []) (v := .int (iI (0))) ksX8_45 (t_X8_in0 l hh1 (j) (0) ((S.1 i).1 - 1) hj ⟨by omega, by omega⟩ ⟨by omega, by omega⟩ (by omega)) rfl (Nat.le_of_ble_eq_true rfl) ⟨(Nat.le_of_ble_eq_true rfl), (Nat.le_of_ble_eq_true rfl)⟩ ⟨(Nat.le_of_ble_eq_true rfl), (Nat.le_of_ble_eq_true rfl)⟩ rfl rfl dX8_document_22 rfl ?_
    refine g_if_eq (t := 37) (q := 28) ⟨by omega, by omega⟩ dX8_document_25 rfl rfl (fun c25 => ?_) (fun c25 => ?_)
    · refine g_aload_n (q := 38) rfl rfl dX8_document_37 rfl ?_
      refine g_iconst (q := 39) dX8_document_38 rfl ?_
      refine g_Vw (q := 42) (d' := 0) (i := 90) (av := [.int (iI (1))]) (st := []) kvX8_64 (t_X8_fails l hh1 0 S sv hM0 1) (by decide) fc2 rfl (Nat.le_of_ble_eq_true rfl) ⟨(Nat.le_of_ble_eq_true rfl), (Nat.le_of_ble_eq_true rfl)⟩ ⟨(Nat.le_of_ble_eq_true rfl), (Nat.le_of_ble_eq_true rfl)⟩ rfl rfl dX8_document_39 rfl (fun v hz hp => ?_)
      obtain ⟨rfl, p1, p2⟩ := hp
      exact g_ireturn (fun z => NN_f z) (Nat.le_of_ble_eq_true rfl) (Nat.le_of_ble_eq_true rfl) dX8_document_42 rfl (wP_in ⟨rfl, p1, fun j hj => (p2 j (by omega)).trans (fr0 j (by omega))⟩)
    · omega
set_option maxRecDepth 4000 in
theorem t_X8_rank (l : Launch) (h : EHp) (th : Int) (S : ASt) (sv : List ASt) (hM : MRep h th S sv) (i : Nat) (hi : i < 4) (x : Int) (y0 : 0 ≤ x) (y1 : x ≤ 512) : CT l mX8_rank 2 0 0 [.ref (90), .int (iI (i)), .int (iI (x))] NN h (wP (fun v h' => v = .int (iI (cb (S.1 i).1 (S.1 i).2 x)) ∧ MRep h' 0 S sv ∧ FrM h h')) := by
  obtain ⟨w, pst, bg, mn, lz, hA, ⟨m1, m2, m3, m4, m5⟩, ⟨⟨cs, s1⟩, ⟨ct, s2⟩, ⟨nx, s3⟩, ⟨fd, s4⟩, ⟨od, s5⟩⟩, hW, hP, hY⟩ := id hM
  obtain ⟨x1, x2, x3⟩ := hW.1 i hi
  obtain ⟨o1, o2, o3, o4⟩ := id x2
  obtain ⟨a1, a2, a3, a4⟩ := cb_is (S.1 i).2 x o1
  refine CT.of (by decide) (Nat.le_of_ble_eq_true rfl) ?_
  refine g_al (al2 := [some (.ref (90)), some (.int (iI (i))), some (.int (iI (x))), none, none]) rfl ?_
  refine g_aload_n (q := 1) rfl rfl dX8_rank_0 rfl ?_
  refine g_iconst (q := 2) dX8_rank_1 rfl ?_
  refine g_put (q := 5) fX8_41 (by decide) hA (Nat.le_of_ble_eq_true rfl) (fun _ _ => rfl) (fun _ _ => rfl) dX8_rank_2 rfl ?_
  refine hp_in (fun hh1 ehh1 => ?_)
  have fc2 : hh1 90 = cO 7 [.int (iI (0)), .ref (91), .ref (92), .int (iI (sv.length)), .ref (93), .ref (94), .ref (95), .ref (96), .ref (97), .ref (98), .ref (99), .ref (100)] := by rw [ehh1]; exact ueh_s
  have fc3 : hh1 91 = cI 272 w := by rw [ehh1, ueh_n (by decide)]; exact m1
  refine g_iload_n (q := 6) rfl rfl dX8_rank_5 rfl ?_
  have hM0 : MRep hh1 0 S sv := hM.thr fc2 (fun j hj => by rw [ehh1, ueh_n hj])
  have fr0 : ∀ j, j ≠ 90 → hh1 j = h j := fun j hj => by rw [ehh1, ueh_n hj]
  refine g_Sr (q := 9) (d' := 1) (av := [.int (iI (i))]) (st := []) (v := .int (iI (1))) ksX8_60 (t_X8_isList1 l hh1 i (by omega) (by omega)) rfl (Nat.le_of_ble_eq_true rfl) ⟨(Nat.le_of_ble_eq_true rfl), (Nat.le_of_ble_eq_true rfl)⟩ ⟨(Nat.le_of_ble_eq_true rfl), (Nat.le_of_ble_eq_true rfl)⟩ rfl rfl dX8_rank_6 rfl ?_
  refine g_if_ne (t := 18) (q := 12) ⟨by omega, by omega⟩ dX8_rank_9 rfl rfl (fun c9 => ?_) (fun c9 => ?_)
  · refine g_iload_n (q := 19) rfl rfl dX8_rank_18 rfl ?_
    refine g_iconst (q := 20) dX8_rank_19 rfl ?_
    refine g_sipush (q := 23) (by decide) dX8_rank_20 rfl ?_
    refine g_Sr (q := 26) (d' := 0) (av := [.int (iI (x)), .int (iI (0)), .int (iI (512))]) (st := []) (v := .int (iI (1))) ksX8_45 (t_X8_in1 l hh1 (x) (0) (512) ⟨by omega, by omega⟩ ⟨by omega, by omega⟩ ⟨by omega, by omega⟩ (by omega) (by omega)) rfl (Nat.le_of_ble_eq_true rfl) ⟨(Nat.le_of_ble_eq_true rfl), (Nat.le_of_ble_eq_true rfl)⟩ ⟨(Nat.le_of_ble_eq_true rfl), (Nat.le_of_ble_eq_true rfl)⟩ rfl rfl dX8_rank_23 rfl ?_
    refine g_if_ne (t := 35) (q := 29) ⟨by omega, by omega⟩ dX8_rank_26 rfl rfl (fun c26 => ?_) (fun c26 => ?_)
    · refine g_iconst (q := 36) dX8_rank_35 rfl ?_
      refine g_istore_n (q := 37) (al2 := [some (.ref (90)), some (.int (iI (i))), some (.int (iI (x))), some (.int (iI (0))), none]) rfl (by decide) rfl rfl dX8_rank_36 rfl ?_
      refine g_iconst (q := 38) dX8_rank_37 rfl ?_
      refine g_istore (q := 40) (al2 := [some (.ref (90)), some (.int (iI (i))), some (.int (iI (x))), some (.int (iI (0))), some (.int (iI (0)))]) (by decide) rfl rfl dX8_rank_38 rfl ?_
      refine loopG (σ := Nat × Int) (P := fun zz => match zz with | (k, n) => G l noX mX8_rank 2 0 0 (wP (fun v h' => v = .int (iI (cb (S.1 i).1 (S.1 i).2 x)) ∧ MRep h' 0 S sv ∧ FrM h h')) 0 0 40 [some (.ref (90)), some (.int (iI (i))), some (.int (iI (x))), some (.int (iI (n))), some (.int (iI (k)))] [] NN hh1) (I := fun zz => match zz with | (k, n) => (k : Int) ≤ (S.1 i).1 ∧ n = (if (k : Int) ≤ cb (S.1 i).1 (S.1 i).2 x then (k : Int) else cb (S.1 i).1 (S.1 i).2 x)) (fun zz => match zz with | (k, n) => ((S.1 i).1 - k).toNat) ?_ (0, 0) ⟨by omega, by rw [if_pos (by omega)]; rfl⟩
      rintro ⟨k, n⟩ hI ih
      obtain ⟨k1, en⟩ := hI
      refine g_iload (q := 42) rfl dX8_rank_40 rfl ?_
      refine g_aload_n (q := 43) rfl rfl dX8_rank_42 rfl ?_
      refine g_get (q := 46) fX8_7r (by decide) fc2 rfl dX8_rank_43 rfl ?_
      refine g_iload_n (q := 47) rfl rfl dX8_rank_46 rfl ?_
      refine g_iaload (q := 48) (by decide) fc3 (by omega) (by omega) (by decide) dX8_rank_47 rfl ?_
      rw [x1]
      refine g_icmp_ge (t := 76) (q := 51) ⟨by omega, by omega⟩ ⟨by omega, by omega⟩ dX8_rank_48 rfl rfl (fun c48 => ?_) (fun c48 => ?_)
      · have er : n = cb (S.1 i).1 (S.1 i).2 x := by
          rw [en]
          by_cases z : (k : Int) ≤ cb (S.1 i).1 (S.1 i).2 x
          · rw [if_pos z]; omega
          · rw [if_neg z]
        rw [er]
        refine g_iload_n (q := 77) rfl rfl dX8_rank_76 rfl ?_
        exact g_ireturn (fun z => NN_f z) (Nat.le_of_ble_eq_true rfl) (Nat.le_of_ble_eq_true rfl) dX8_rank_77 rfl (wP_in ⟨rfl, hM0, fun j hj => fr0 j (by omega)⟩)
      · have rk := o3 k (by omega) (by omega)
        have hk : (S.1 i).2 k < x ↔ (k : Int) < cb (S.1 i).1 (S.1 i).2 x := by
          constructor
          · intro z
            rcases Int.lt_or_le (k : Int) (cb (S.1 i).1 (S.1 i).2 x) with y | y
            · exact y
            · have := a4 (by omega)
              by_cases e : cb (S.1 i).1 (S.1 i).2 x = k
              · rw [e] at this; omega
              · have := o4 (cb (S.1 i).1 (S.1 i).2 x) k a1 (by omega) (by omega); omega
          · exact fun z => a3 k (by omega) z
        refine g_iload_n (q := 52) rfl rfl dX8_rank_51 rfl ?_
        refine g_aload_n (q := 53) rfl rfl dX8_rank_52 rfl ?_
        refine g_iload_n (q := 54) rfl rfl dX8_rank_53 rfl ?_
        refine g_iload (q := 56) rfl dX8_rank_54 rfl ?_
        refine g_Vr (q := 59) (d' := 0) (i := 90) (av := [.int (iI (i)), .int (iI (k))]) (st := [.int (iI (n))]) (v := .int (iI ((S.1 i).2 k))) kvX8_56 (t_X8_doc l hh1 i (S.1 i).1 (S.1 i).2 (hM0.doc hi) k (by omega) (by omega)) (by decide) fc2 rfl (Nat.le_of_ble_eq_true rfl) ⟨(Nat.le_of_ble_eq_true rfl), (Nat.le_of_ble_eq_true rfl)⟩ ⟨(Nat.le_of_ble_eq_true rfl), (Nat.le_of_ble_eq_true rfl)⟩ rfl rfl dX8_rank_56 rfl ?_
        refine g_iload_n (q := 60) rfl rfl dX8_rank_59 rfl ?_
        refine g_icmp_ge (t := 67) (q := 63) ⟨by omega, by omega⟩ ⟨by omega, by omega⟩ dX8_rank_60 rfl rfl (fun c60 => ?_) (fun c60 => ?_)
        · refine g_iconst (q := 68) dX8_rank_67 rfl ?_
          refine g_iadd (q := 69) dX8_rank_68 rfl ?_
          refine g_istore_n (q := 70) (al2 := [some (.ref (90)), some (.int (iI (i))), some (.int (iI (x))), some (.int (iI (n + 0))), some (.int (iI (k)))]) rfl (by decide) rfl rfl dX8_rank_69 rfl ?_
          refine g_iinc (q := 73) (al2 := [some (.ref (90)), some (.int (iI (i))), some (.int (iI (x))), some (.int (iI (n + 0))), some (.int (iI (k + 1)))]) rfl (by decide) rfl rfl dX8_rank_70 rfl ?_
          refine g_goto (q := 40) dX8_rank_73 rfl ?_
          exact ih (k + 1, n + 0) ⟨by omega, by
              rw [en]
              by_cases z : (k : Int) < cb (S.1 i).1 (S.1 i).2 x
              · rw [if_pos (by omega), if_pos (by omega)]; have := hk.mpr z; omega
              · by_cases z2 : (k : Int) ≤ cb (S.1 i).1 (S.1 i).2 x
                · rw [if_pos z2, if_neg (by omega)]; omega
                · rw [if_neg z2, if_neg (by omega)]; omega⟩ (by show ((S.1 i).1 - ((k + 1 : Nat) : Int)).toNat < ((S.1 i).1 - k).toNat; omega)
        · refine g_iconst (q := 64) dX8_rank_63 rfl ?_
          refine g_goto (q := 68) dX8_rank_64 rfl ?_
          refine g_iadd (q := 69) dX8_rank_68 rfl ?_
          refine g_istore_n (q := 70) (al2 := [some (.ref (90)), some (.int (iI (i))), some (.int (iI (x))), some (.int (iI (n + 1))), some (.int (iI (k)))]) rfl (by decide) rfl rfl dX8_rank_69 rfl ?_
          refine g_iinc (q := 73) (al2 := [some (.ref (90)), some (.int (iI (i))), some (.int (iI (x))), some (.int (iI (n + 1))), some (.int (iI (k + 1)))]) rfl (by decide) rfl rfl dX8_rank_70 rfl ?_
          refine g_goto (q := 40) dX8_rank_73 rfl ?_
          exact ih (k + 1, n + 1) ⟨by omega, by
              rw [en]
              by_cases z : (k : Int) < cb (S.1 i).1 (S.1 i).2 x
              · rw [if_pos (by omega), if_pos (by omega)]; omega
              · by_cases z2 : (k : Int) ≤ cb (S.1 i).1 (S.1 i).2 x
                · rw [if_pos z2, if_neg (by omega)]; have := hk.mp (by omega); omega
                · rw [if_neg z2, if_neg (by omega)]; have := hk.mp (by omega); omega⟩ (by show ((S.1 i).1 - ((k + 1 : Nat) : Int)).toNat < ((S.1 i).1 - k).toNat; omega)
    · omega
  · omega
set_option maxRecDepth 4000 in
theorem f_X8_rank (l : Launch) (h : EHp) (th : Int) (S : ASt) (sv : List ASt) (hM : MRep h th S sv) (i : Int) (hi : IR i) (h0 : i < 0 ∨ 4 ≤ i) (x : Int) : CT l mX8_rank 2 0 0 [.ref (90), .int (iI (i)), .int (iI (x))] NN h (wP (fun v h' => v = .int (iI 0) ∧ MRep h' 1 S sv ∧ FrM h h')) := by
  obtain ⟨w, pst, bg, mn, lz, hA, ⟨m1, m2, m3, m4, m5⟩, ⟨⟨cs, s1⟩, ⟨ct, s2⟩, ⟨nx, s3⟩, ⟨fd, s4⟩, ⟨od, s5⟩⟩, hW, hP, hY⟩ := id hM
  refine CT.of (by decide) (Nat.le_of_ble_eq_true rfl) ?_
  refine g_al (al2 := [some (.ref (90)), some (.int (iI (i))), some (.int (iI (x))), none, none]) rfl ?_
  refine g_aload_n (q := 1) rfl rfl dX8_rank_0 rfl ?_
  refine g_iconst (q := 2) dX8_rank_1 rfl ?_
  refine g_put (q := 5) fX8_41 (by decide) hA (Nat.le_of_ble_eq_true rfl) (fun _ _ => rfl) (fun _ _ => rfl) dX8_rank_2 rfl ?_
  refine hp_in (fun hh1 ehh1 => ?_)
  have fc2 : hh1 90 = cO 7 [.int (iI (0)), .ref (91), .ref (92), .int (iI (sv.length)), .ref (93), .ref (94), .ref (95), .ref (96), .ref (97), .ref (98), .ref (99), .ref (100)] := by rw [ehh1]; exact ueh_s
  have fc3 : hh1 91 = cI 272 w := by rw [ehh1, ueh_n (by decide)]; exact m1
  refine g_iload_n (q := 6) rfl rfl dX8_rank_5 rfl ?_
  have hM0 : MRep hh1 0 S sv := hM.thr fc2 (fun j hj => by rw [ehh1, ueh_n hj])
  have fr0 : ∀ j, j ≠ 90 → hh1 j = h j := fun j hj => by rw [ehh1, ueh_n hj]
  refine g_Sr (q := 9) (d' := 1) (av := [.int (iI (i))]) (st := []) (v := .int (iI (0))) ksX8_60 (t_X8_isList0 l hh1 i hi (by omega)) rfl (Nat.le_of_ble_eq_true rfl) ⟨(Nat.le_of_ble_eq_true rfl), (Nat.le_of_ble_eq_true rfl)⟩ ⟨(Nat.le_of_ble_eq_true rfl), (Nat.le_of_ble_eq_true rfl)⟩ rfl rfl dX8_rank_6 rfl ?_
  refine g_if_ne (t := 18) (q := 12) ⟨by omega, by omega⟩ dX8_rank_9 rfl rfl (fun c9 => ?_) (fun c9 => ?_)
  · omega
  · refine g_aload_n (q := 13) rfl rfl dX8_rank_12 rfl ?_
    refine g_iconst (q := 14) dX8_rank_13 rfl ?_
    refine g_Vw (q := 17) (d' := 0) (i := 90) (av := [.int (iI (1))]) (st := []) kvX8_64 (t_X8_fails l hh1 0 S sv hM0 1) (by decide) fc2 rfl (Nat.le_of_ble_eq_true rfl) ⟨(Nat.le_of_ble_eq_true rfl), (Nat.le_of_ble_eq_true rfl)⟩ ⟨(Nat.le_of_ble_eq_true rfl), (Nat.le_of_ble_eq_true rfl)⟩ rfl rfl dX8_rank_14 rfl (fun v hz hp => ?_)
    obtain ⟨rfl, p1, p2⟩ := hp
    exact g_ireturn (fun z => NN_f z) (Nat.le_of_ble_eq_true rfl) (Nat.le_of_ble_eq_true rfl) dX8_rank_17 rfl (wP_in ⟨rfl, p1, fun j hj => (p2 j (by omega)).trans (fr0 j (by omega))⟩)
set_option maxRecDepth 4000 in
theorem f2_X8_rank (l : Launch) (h : EHp) (th : Int) (S : ASt) (sv : List ASt) (hM : MRep h th S sv) (i : Nat) (hi : i < 4) (x : Int) (hj : IR x) (hx : x < 0 ∨ 512 < x) : CT l mX8_rank 2 0 0 [.ref (90), .int (iI (i)), .int (iI (x))] NN h (wP (fun v h' => v = .int (iI 0) ∧ MRep h' 2 S sv ∧ FrM h h')) := by
  obtain ⟨w, pst, bg, mn, lz, hA, ⟨m1, m2, m3, m4, m5⟩, ⟨⟨cs, s1⟩, ⟨ct, s2⟩, ⟨nx, s3⟩, ⟨fd, s4⟩, ⟨od, s5⟩⟩, hW, hP, hY⟩ := id hM
  refine CT.of (by decide) (Nat.le_of_ble_eq_true rfl) ?_
  refine g_al (al2 := [some (.ref (90)), some (.int (iI (i))), some (.int (iI (x))), none, none]) rfl ?_
  refine g_aload_n (q := 1) rfl rfl dX8_rank_0 rfl ?_
  refine g_iconst (q := 2) dX8_rank_1 rfl ?_
  refine g_put (q := 5) fX8_41 (by decide) hA (Nat.le_of_ble_eq_true rfl) (fun _ _ => rfl) (fun _ _ => rfl) dX8_rank_2 rfl ?_
  refine hp_in (fun hh1 ehh1 => ?_)
  have fc2 : hh1 90 = cO 7 [.int (iI (0)), .ref (91), .ref (92), .int (iI (sv.length)), .ref (93), .ref (94), .ref (95), .ref (96), .ref (97), .ref (98), .ref (99), .ref (100)] := by rw [ehh1]; exact ueh_s
  have fc3 : hh1 91 = cI 272 w := by rw [ehh1, ueh_n (by decide)]; exact m1
  refine g_iload_n (q := 6) rfl rfl dX8_rank_5 rfl ?_
  have hM0 : MRep hh1 0 S sv := hM.thr fc2 (fun j hj => by rw [ehh1, ueh_n hj])
  have fr0 : ∀ j, j ≠ 90 → hh1 j = h j := fun j hj => by rw [ehh1, ueh_n hj]
  refine g_Sr (q := 9) (d' := 1) (av := [.int (iI (i))]) (st := []) (v := .int (iI (1))) ksX8_60 (t_X8_isList1 l hh1 i (by omega) (by omega)) rfl (Nat.le_of_ble_eq_true rfl) ⟨(Nat.le_of_ble_eq_true rfl), (Nat.le_of_ble_eq_true rfl)⟩ ⟨(Nat.le_of_ble_eq_true rfl), (Nat.le_of_ble_eq_true rfl)⟩ rfl rfl dX8_rank_6 rfl ?_
  refine g_if_ne (t := 18) (q := 12) ⟨by omega, by omega⟩ dX8_rank_9 rfl rfl (fun c9 => ?_) (fun c9 => ?_)
  · refine g_iload_n (q := 19) rfl rfl dX8_rank_18 rfl ?_
    refine g_iconst (q := 20) dX8_rank_19 rfl ?_
    refine g_sipush (q := 23) (by decide) dX8_rank_20 rfl ?_
    refine g_Sr (q := 26) (d' := 0) (av := [.int (iI (x)), .int (iI (0)), .int (iI (512))]) (st := []) (v := .int (iI (0))) ksX8_45 (t_X8_in0 l hh1 (x) (0) (512) hj ⟨by omega, by omega⟩ ⟨by omega, by omega⟩ (by omega)) rfl (Nat.le_of_ble_eq_true rfl) ⟨(Nat.le_of_ble_eq_true rfl), (Nat.le_of_ble_eq_true rfl)⟩ ⟨(Nat.le_of_ble_eq_true rfl), (Nat.le_of_ble_eq_true rfl)⟩ rfl rfl dX8_rank_23 rfl ?_
    refine g_if_ne (t := 35) (q := 29) ⟨by omega, by omega⟩ dX8_rank_26 rfl rfl (fun c26 => ?_) (fun c26 => ?_)
    · omega
    · refine g_aload_n (q := 30) rfl rfl dX8_rank_29 rfl ?_
      refine g_iconst (q := 31) dX8_rank_30 rfl ?_
      refine g_Vw (q := 34) (d' := 0) (i := 90) (av := [.int (iI (2))]) (st := []) kvX8_64 (t_X8_fails l hh1 0 S sv hM0 2) (by decide) fc2 rfl (Nat.le_of_ble_eq_true rfl) ⟨(Nat.le_of_ble_eq_true rfl), (Nat.le_of_ble_eq_true rfl)⟩ ⟨(Nat.le_of_ble_eq_true rfl), (Nat.le_of_ble_eq_true rfl)⟩ rfl rfl dX8_rank_31 rfl (fun v hz hp => ?_)
      obtain ⟨rfl, p1, p2⟩ := hp
      exact g_ireturn (fun z => NN_f z) (Nat.le_of_ble_eq_true rfl) (Nat.le_of_ble_eq_true rfl) dX8_rank_34 rfl (wP_in ⟨rfl, p1, fun j hj => (p2 j (by omega)).trans (fr0 j (by omega))⟩)
  · omega
set_option maxRecDepth 4000 in
theorem t_X8_partitions (l : Launch) (h : EHp) (th : Int) (S : ASt) (sv : List ASt) (hM : MRep h th S sv) (i : Nat) (hi : i < 4) : CT l mX8_partitions 5 0 0 [.ref (90), .int (iI (i))] NN h (wP (fun v h' => v = .int (iI (pn (S.1 i).1 (S.1 i).2)) ∧ MRep h' 0 S sv ∧ FrM h h')) := by
  obtain ⟨w, pst, bg, mn, lz, hA, ⟨m1, m2, m3, m4, m5⟩, ⟨⟨cs, s1⟩, ⟨ct, s2⟩, ⟨nx, s3⟩, ⟨fd, s4⟩, ⟨od, s5⟩⟩, hW, hP, hY⟩ := id hM
  obtain ⟨x1, x2, x3⟩ := hW.1 i hi
  obtain ⟨o1, o2, o3, o4⟩ := id x2
  refine CT.of (by decide) (Nat.le_of_ble_eq_true rfl) ?_
  refine g_al (al2 := [some (.ref (90)), some (.int (iI (i)))]) rfl ?_
  refine g_aload_n (q := 1) rfl rfl dX8_partitions_0 rfl ?_
  refine g_iconst (q := 2) dX8_partitions_1 rfl ?_
  refine g_put (q := 5) fX8_41 (by decide) hA (Nat.le_of_ble_eq_true rfl) (fun _ _ => rfl) (fun _ _ => rfl) dX8_partitions_2 rfl ?_
  refine hp_in (fun hh1 ehh1 => ?_)
  have fc2 : hh1 90 = cO 7 [.int (iI (0)), .ref (91), .ref (92), .int (iI (sv.length)), .ref (93), .ref (94), .ref (95), .ref (96), .ref (97), .ref (98), .ref (99), .ref (100)] := by rw [ehh1]; exact ueh_s
  have fc3 : hh1 91 = cI 272 w := by rw [ehh1, ueh_n (by decide)]; exact m1
  refine g_iload_n (q := 6) rfl rfl dX8_partitions_5 rfl ?_
  have hM0 : MRep hh1 0 S sv := hM.thr fc2 (fun j hj => by rw [ehh1, ueh_n hj])
  have fr0 : ∀ j, j ≠ 90 → hh1 j = h j := fun j hj => by rw [ehh1, ueh_n hj]
  refine g_Sr (q := 9) (d' := 1) (av := [.int (iI (i))]) (st := []) (v := .int (iI (1))) ksX8_60 (t_X8_isList1 l hh1 i (by omega) (by omega)) rfl (Nat.le_of_ble_eq_true rfl) ⟨(Nat.le_of_ble_eq_true rfl), (Nat.le_of_ble_eq_true rfl)⟩ ⟨(Nat.le_of_ble_eq_true rfl), (Nat.le_of_ble_eq_true rfl)⟩ rfl rfl dX8_partitions_6 rfl ?_
  refine g_if_ne (t := 18) (q := 12) ⟨by omega, by omega⟩ dX8_partitions_9 rfl rfl (fun c9 => ?_) (fun c9 => ?_)
  · refine g_aload_n (q := 19) rfl rfl dX8_partitions_18 rfl ?_
    refine g_iload_n (q := 20) rfl rfl dX8_partitions_19 rfl ?_
    refine g_Vv (q := 23) (d' := 4) (i := 90) (av := [.int (iI (i))]) (st := []) kvX8_114 (t_X8_lay l hh1 0 S sv hM0 i hi) (by decide) fc2 rfl (Nat.le_of_ble_eq_true rfl) ⟨(Nat.le_of_ble_eq_true rfl), (Nat.le_of_ble_eq_true rfl)⟩ ⟨(Nat.le_of_ble_eq_true rfl), (Nat.le_of_ble_eq_true rfl)⟩ rfl rfl dX8_partitions_20 rfl (fun h1 hp => ?_)
    obtain ⟨l1, l2, l3⟩ := hp
    obtain ⟨bg9, mn9, b93, b94, emn, -⟩ := id l2.2
    have p64 := pn_64 l2.LOk
    obtain ⟨w1, pst1, bg1, mn1, lz1, A1, ⟨B1, -⟩, -, W1, -⟩ := id l1
    refine g_aload_n (q := 24) rfl rfl dX8_partitions_23 rfl ?_
    refine g_get (q := 27) fX8_19r (by decide) A1 rfl dX8_partitions_24 rfl ?_
    refine g_iload_n (q := 28) rfl rfl dX8_partitions_27 rfl ?_
    refine g_iaload (q := 29) (by decide) b94 (by omega) (by omega) (by decide) dX8_partitions_28 rfl ?_
    rw [emn]
    exact g_ireturn (fun z => NN_f z) (Nat.le_of_ble_eq_true rfl) (Nat.le_of_ble_eq_true rfl) dX8_partitions_29 rfl (wP_in ⟨rfl, l1, fun j hj => (l3 j (by omega)).trans (fr0 j (by omega))⟩)
  · omega
set_option maxRecDepth 4000 in
theorem f_X8_partitions (l : Launch) (h : EHp) (th : Int) (S : ASt) (sv : List ASt) (hM : MRep h th S sv) (i : Int) (hi : IR i) (h0 : i < 0 ∨ 4 ≤ i) : CT l mX8_partitions 5 0 0 [.ref (90), .int (iI (i))] NN h (wP (fun v h' => v = .int (iI 0) ∧ MRep h' 1 S sv ∧ FrM h h')) := by
  obtain ⟨w, pst, bg, mn, lz, hA, ⟨m1, m2, m3, m4, m5⟩, ⟨⟨cs, s1⟩, ⟨ct, s2⟩, ⟨nx, s3⟩, ⟨fd, s4⟩, ⟨od, s5⟩⟩, hW, hP, hY⟩ := id hM
  refine CT.of (by decide) (Nat.le_of_ble_eq_true rfl) ?_
  refine g_al (al2 := [some (.ref (90)), some (.int (iI (i)))]) rfl ?_
  refine g_aload_n (q := 1) rfl rfl dX8_partitions_0 rfl ?_
  refine g_iconst (q := 2) dX8_partitions_1 rfl ?_
  refine g_put (q := 5) fX8_41 (by decide) hA (Nat.le_of_ble_eq_true rfl) (fun _ _ => rfl) (fun _ _ => rfl) dX8_partitions_2 rfl ?_
  refine hp_in (fun hh1 ehh1 => ?_)
  have fc2 : hh1 90 = cO 7 [.int (iI (0)), .ref (91), .ref (92), .int (iI (sv.length)), .ref (93), .ref (94), .ref (95), .ref (96), .ref (97), .ref (98), .ref (99), .ref (100)] := by rw [ehh1]; exact ueh_s
  have fc3 : hh1 91 = cI 272 w := by rw [ehh1, ueh_n (by decide)]; exact m1
  refine g_iload_n (q := 6) rfl rfl dX8_partitions_5 rfl ?_
  have hM0 : MRep hh1 0 S sv := hM.thr fc2 (fun j hj => by rw [ehh1, ueh_n hj])
  have fr0 : ∀ j, j ≠ 90 → hh1 j = h j := fun j hj => by rw [ehh1, ueh_n hj]
  refine g_Sr (q := 9) (d' := 1) (av := [.int (iI (i))]) (st := []) (v := .int (iI (0))) ksX8_60 (t_X8_isList0 l hh1 i hi (by omega)) rfl (Nat.le_of_ble_eq_true rfl) ⟨(Nat.le_of_ble_eq_true rfl), (Nat.le_of_ble_eq_true rfl)⟩ ⟨(Nat.le_of_ble_eq_true rfl), (Nat.le_of_ble_eq_true rfl)⟩ rfl rfl dX8_partitions_6 rfl ?_
  refine g_if_ne (t := 18) (q := 12) ⟨by omega, by omega⟩ dX8_partitions_9 rfl rfl (fun c9 => ?_) (fun c9 => ?_)
  · omega
  · refine g_aload_n (q := 13) rfl rfl dX8_partitions_12 rfl ?_
    refine g_iconst (q := 14) dX8_partitions_13 rfl ?_
    refine g_Vw (q := 17) (d' := 0) (i := 90) (av := [.int (iI (1))]) (st := []) kvX8_64 (t_X8_fails l hh1 0 S sv hM0 1) (by decide) fc2 rfl (Nat.le_of_ble_eq_true rfl) ⟨(Nat.le_of_ble_eq_true rfl), (Nat.le_of_ble_eq_true rfl)⟩ ⟨(Nat.le_of_ble_eq_true rfl), (Nat.le_of_ble_eq_true rfl)⟩ rfl rfl dX8_partitions_14 rfl (fun v hz hp => ?_)
    obtain ⟨rfl, p1, p2⟩ := hp
    exact g_ireturn (fun z => NN_f z) (Nat.le_of_ble_eq_true rfl) (Nat.le_of_ble_eq_true rfl) dX8_partitions_17 rfl (wP_in ⟨rfl, p1, fun j hj => (p2 j (by omega)).trans (fr0 j (by omega))⟩)
set_option maxRecDepth 4000 in
theorem t_X8_partition (l : Launch) (h : EHp) (th : Int) (S : ASt) (sv : List ASt) (hM : MRep h th S sv) (i : Nat) (hi : i < 4) (k : Nat) (t : Int) (hk : k < pn (S.1 i).1 (S.1 i).2) (t0 : 0 ≤ t) (t5 : t ≤ 5) : CT l mX8_partition 6 0 0 [.ref (90), .int (iI (i)), .int (iI (k)), .int (iI (t))] NN h (wP (fun v h' => v = .int (iI (fct (S.1 i).2 (pb (S.1 i).1 (S.1 i).2 k) (pb (S.1 i).1 (S.1 i).2 (k + 1)) t)) ∧ MRep h' 0 S sv ∧ FrM h h')) := by
  obtain ⟨w, pst, bg, mn, lz, hA, ⟨m1, m2, m3, m4, m5⟩, ⟨⟨cs, s1⟩, ⟨ct, s2⟩, ⟨nx, s3⟩, ⟨fd, s4⟩, ⟨od, s5⟩⟩, hW, hP, hY⟩ := id hM
  obtain ⟨x1, x2, x3⟩ := hW.1 i hi
  obtain ⟨o1, o2, o3, o4⟩ := id x2
  refine CT.of (by decide) (Nat.le_of_ble_eq_true rfl) ?_
  refine g_al (al2 := [some (.ref (90)), some (.int (iI (i))), some (.int (iI (k))), some (.int (iI (t)))]) rfl ?_
  refine g_aload_n (q := 1) rfl rfl dX8_partition_0 rfl ?_
  refine g_iconst (q := 2) dX8_partition_1 rfl ?_
  refine g_put (q := 5) fX8_41 (by decide) hA (Nat.le_of_ble_eq_true rfl) (fun _ _ => rfl) (fun _ _ => rfl) dX8_partition_2 rfl ?_
  refine hp_in (fun hh1 ehh1 => ?_)
  have fc2 : hh1 90 = cO 7 [.int (iI (0)), .ref (91), .ref (92), .int (iI (sv.length)), .ref (93), .ref (94), .ref (95), .ref (96), .ref (97), .ref (98), .ref (99), .ref (100)] := by rw [ehh1]; exact ueh_s
  have fc3 : hh1 91 = cI 272 w := by rw [ehh1, ueh_n (by decide)]; exact m1
  refine g_iload_n (q := 6) rfl rfl dX8_partition_5 rfl ?_
  have hM0 : MRep hh1 0 S sv := hM.thr fc2 (fun j hj => by rw [ehh1, ueh_n hj])
  have fr0 : ∀ j, j ≠ 90 → hh1 j = h j := fun j hj => by rw [ehh1, ueh_n hj]
  refine g_Sr (q := 9) (d' := 1) (av := [.int (iI (i))]) (st := []) (v := .int (iI (1))) ksX8_60 (t_X8_isList1 l hh1 i (by omega) (by omega)) rfl (Nat.le_of_ble_eq_true rfl) ⟨(Nat.le_of_ble_eq_true rfl), (Nat.le_of_ble_eq_true rfl)⟩ ⟨(Nat.le_of_ble_eq_true rfl), (Nat.le_of_ble_eq_true rfl)⟩ rfl rfl dX8_partition_6 rfl ?_
  refine g_if_ne (t := 18) (q := 12) ⟨by omega, by omega⟩ dX8_partition_9 rfl rfl (fun c9 => ?_) (fun c9 => ?_)
  · refine g_aload_n (q := 19) rfl rfl dX8_partition_18 rfl ?_
    refine g_iload_n (q := 20) rfl rfl dX8_partition_19 rfl ?_
    refine g_Vv (q := 23) (d' := 4) (i := 90) (av := [.int (iI (i))]) (st := []) kvX8_114 (t_X8_lay l hh1 0 S sv hM0 i hi) (by decide) fc2 rfl (Nat.le_of_ble_eq_true rfl) ⟨(Nat.le_of_ble_eq_true rfl), (Nat.le_of_ble_eq_true rfl)⟩ ⟨(Nat.le_of_ble_eq_true rfl), (Nat.le_of_ble_eq_true rfl)⟩ rfl rfl dX8_partition_20 rfl (fun h1 hp => ?_)
    obtain ⟨l1, l2, l3⟩ := hp
    obtain ⟨bg9, mn9, b93, b94, emn, -⟩ := id l2.2
    have p64 := pn_64 l2.LOk
    obtain ⟨w1, pst1, bg1, mn1, lz1, A1, ⟨B1, -⟩, -, W1, -⟩ := id l1
    refine g_iload_n (q := 24) rfl rfl dX8_partition_23 rfl ?_
    refine g_iconst (q := 25) dX8_partition_24 rfl ?_
    refine g_aload_n (q := 26) rfl rfl dX8_partition_25 rfl ?_
    refine g_get (q := 29) fX8_19r (by decide) A1 rfl dX8_partition_26 rfl ?_
    refine g_iload_n (q := 30) rfl rfl dX8_partition_29 rfl ?_
    refine g_iaload (q := 31) (by decide) b94 (by omega) (by omega) (by decide) dX8_partition_30 rfl ?_
    rw [emn]
    refine g_iconst (q := 32) dX8_partition_31 rfl ?_
    refine g_isub (q := 33) dX8_partition_32 rfl ?_
    refine g_Sr (q := 36) (d' := 0) (av := [.int (iI (k)), .int (iI (0)), .int (iI ((pn (S.1 i).1 (S.1 i).2) - 1))]) (st := []) (v := .int (iI (1))) ksX8_45 (t_X8_in1 l h1 ((k : Int)) (0) (pn (S.1 i).1 (S.1 i).2 - 1) ⟨by omega, by omega⟩ ⟨by omega, by omega⟩ ⟨by omega, by omega⟩ (by omega) (by omega)) rfl (Nat.le_of_ble_eq_true rfl) ⟨(Nat.le_of_ble_eq_true rfl), (Nat.le_of_ble_eq_true rfl)⟩ ⟨(Nat.le_of_ble_eq_true rfl), (Nat.le_of_ble_eq_true rfl)⟩ rfl rfl dX8_partition_33 rfl ?_
    refine g_if_ne (t := 45) (q := 39) ⟨by omega, by omega⟩ dX8_partition_36 rfl rfl (fun c36 => ?_) (fun c36 => ?_)
    · refine g_iload_n (q := 46) rfl rfl dX8_partition_45 rfl ?_
      refine g_iconst (q := 47) dX8_partition_46 rfl ?_
      refine g_iconst (q := 48) dX8_partition_47 rfl ?_
      refine g_Sr (q := 51) (d' := 0) (av := [.int (iI (t)), .int (iI (0)), .int (iI (5))]) (st := []) (v := .int (iI (1))) ksX8_45 (t_X8_in1 l h1 (t) (0) (5) ⟨by omega, by omega⟩ ⟨by omega, by omega⟩ ⟨by omega, by omega⟩ (by omega) (by omega)) rfl (Nat.le_of_ble_eq_true rfl) ⟨(Nat.le_of_ble_eq_true rfl), (Nat.le_of_ble_eq_true rfl)⟩ ⟨(Nat.le_of_ble_eq_true rfl), (Nat.le_of_ble_eq_true rfl)⟩ rfl rfl dX8_partition_48 rfl ?_
      refine g_if_eq (t := 64) (q := 54) ⟨by omega, by omega⟩ dX8_partition_51 rfl rfl (fun c51 => ?_) (fun c51 => ?_)
      · omega
      · refine g_aload_n (q := 55) rfl rfl dX8_partition_54 rfl ?_
        refine g_iload_n (q := 56) rfl rfl dX8_partition_55 rfl ?_
        refine g_iload_n (q := 57) rfl rfl dX8_partition_56 rfl ?_
        refine g_iload_n (q := 58) rfl rfl dX8_partition_57 rfl ?_
        refine g_Vr (q := 61) (d' := 5) (i := 90) (av := [.int (iI (i)), .int (iI (k)), .int (iI (t))]) (st := []) (v := .int (iI (fct (S.1 i).2 (pb (S.1 i).1 (S.1 i).2 k) (pb (S.1 i).1 (S.1 i).2 (k + 1)) t))) kvX8_120 (t_X8_property l h1 i (S.1 i).1 (S.1 i).2 l2 k hk t t0 t5) (by decide) A1 rfl (Nat.le_of_ble_eq_true rfl) ⟨(Nat.le_of_ble_eq_true rfl), (Nat.le_of_ble_eq_true rfl)⟩ ⟨(Nat.le_of_ble_eq_true rfl), (Nat.le_of_ble_eq_true rfl)⟩ rfl rfl dX8_partition_58 rfl ?_
        refine g_goto (q := 69) dX8_partition_61 rfl ?_
        exact g_ireturn (fun z => NN_f z) (Nat.le_of_ble_eq_true rfl) (Nat.le_of_ble_eq_true rfl) dX8_partition_69 rfl (wP_in ⟨rfl, l1, fun j hj => (l3 j (by omega)).trans (fr0 j (by omega))⟩)
    · omega
  · omega
set_option maxRecDepth 4000 in
theorem f_X8_partition (l : Launch) (h : EHp) (th : Int) (S : ASt) (sv : List ASt) (hM : MRep h th S sv) (i : Int) (hi : IR i) (h0 : i < 0 ∨ 4 ≤ i) (k t : Int) : CT l mX8_partition 6 0 0 [.ref (90), .int (iI (i)), .int (iI (k)), .int (iI (t))] NN h (wP (fun v h' => v = .int (iI 0) ∧ MRep h' 1 S sv ∧ FrM h h')) := by
  obtain ⟨w, pst, bg, mn, lz, hA, ⟨m1, m2, m3, m4, m5⟩, ⟨⟨cs, s1⟩, ⟨ct, s2⟩, ⟨nx, s3⟩, ⟨fd, s4⟩, ⟨od, s5⟩⟩, hW, hP, hY⟩ := id hM
  refine CT.of (by decide) (Nat.le_of_ble_eq_true rfl) ?_
  refine g_al (al2 := [some (.ref (90)), some (.int (iI (i))), some (.int (iI (k))), some (.int (iI (t)))]) rfl ?_
  refine g_aload_n (q := 1) rfl rfl dX8_partition_0 rfl ?_
  refine g_iconst (q := 2) dX8_partition_1 rfl ?_
  refine g_put (q := 5) fX8_41 (by decide) hA (Nat.le_of_ble_eq_true rfl) (fun _ _ => rfl) (fun _ _ => rfl) dX8_partition_2 rfl ?_
  refine hp_in (fun hh1 ehh1 => ?_)
  have fc2 : hh1 90 = cO 7 [.int (iI (0)), .ref (91), .ref (92), .int (iI (sv.length)), .ref (93), .ref (94), .ref (95), .ref (96), .ref (97), .ref (98), .ref (99), .ref (100)] := by rw [ehh1]; exact ueh_s
  have fc3 : hh1 91 = cI 272 w := by rw [ehh1, ueh_n (by decide)]; exact m1
  refine g_iload_n (q := 6) rfl rfl dX8_partition_5 rfl ?_
  have hM0 : MRep hh1 0 S sv := hM.thr fc2 (fun j hj => by rw [ehh1, ueh_n hj])
  have fr0 : ∀ j, j ≠ 90 → hh1 j = h j := fun j hj => by rw [ehh1, ueh_n hj]
  refine g_Sr (q := 9) (d' := 1) (av := [.int (iI (i))]) (st := []) (v := .int (iI (0))) ksX8_60 (t_X8_isList0 l hh1 i hi (by omega)) rfl (Nat.le_of_ble_eq_true rfl) ⟨(Nat.le_of_ble_eq_true rfl), (Nat.le_of_ble_eq_true rfl)⟩ ⟨(Nat.le_of_ble_eq_true rfl), (Nat.le_of_ble_eq_true rfl)⟩ rfl rfl dX8_partition_6 rfl ?_
  refine g_if_ne (t := 18) (q := 12) ⟨by omega, by omega⟩ dX8_partition_9 rfl rfl (fun c9 => ?_) (fun c9 => ?_)
  · omega
  · refine g_aload_n (q := 13) rfl rfl dX8_partition_12 rfl ?_
    refine g_iconst (q := 14) dX8_partition_13 rfl ?_
    refine g_Vw (q := 17) (d' := 0) (i := 90) (av := [.int (iI (1))]) (st := []) kvX8_64 (t_X8_fails l hh1 0 S sv hM0 1) (by decide) fc2 rfl (Nat.le_of_ble_eq_true rfl) ⟨(Nat.le_of_ble_eq_true rfl), (Nat.le_of_ble_eq_true rfl)⟩ ⟨(Nat.le_of_ble_eq_true rfl), (Nat.le_of_ble_eq_true rfl)⟩ rfl rfl dX8_partition_14 rfl (fun v hz hp => ?_)
    obtain ⟨rfl, p1, p2⟩ := hp
    exact g_ireturn (fun z => NN_f z) (Nat.le_of_ble_eq_true rfl) (Nat.le_of_ble_eq_true rfl) dX8_partition_17 rfl (wP_in ⟨rfl, p1, fun j hj => (p2 j (by omega)).trans (fr0 j (by omega))⟩)
set_option maxRecDepth 4000 in
theorem f2_X8_partition (l : Launch) (h : EHp) (th : Int) (S : ASt) (sv : List ASt) (hM : MRep h th S sv) (i : Nat) (hi : i < 4) (k t : Int) (hj : IR k) (hx : k < 0 ∨ (pn (S.1 i).1 (S.1 i).2 : Int) ≤ k) : CT l mX8_partition 6 0 0 [.ref (90), .int (iI (i)), .int (iI (k)), .int (iI (t))] NN h (wP (fun v h' => v = .int (iI 0) ∧ MRep h' 1 S sv ∧ FrM h h')) := by
  obtain ⟨w, pst, bg, mn, lz, hA, ⟨m1, m2, m3, m4, m5⟩, ⟨⟨cs, s1⟩, ⟨ct, s2⟩, ⟨nx, s3⟩, ⟨fd, s4⟩, ⟨od, s5⟩⟩, hW, hP, hY⟩ := id hM
  obtain ⟨x1, x2, x3⟩ := hW.1 i hi
  obtain ⟨o1, o2, o3, o4⟩ := id x2
  refine CT.of (by decide) (Nat.le_of_ble_eq_true rfl) ?_
  refine g_al (al2 := [some (.ref (90)), some (.int (iI (i))), some (.int (iI (k))), some (.int (iI (t)))]) rfl ?_
  refine g_aload_n (q := 1) rfl rfl dX8_partition_0 rfl ?_
  refine g_iconst (q := 2) dX8_partition_1 rfl ?_
  refine g_put (q := 5) fX8_41 (by decide) hA (Nat.le_of_ble_eq_true rfl) (fun _ _ => rfl) (fun _ _ => rfl) dX8_partition_2 rfl ?_
  refine hp_in (fun hh1 ehh1 => ?_)
  have fc2 : hh1 90 = cO 7 [.int (iI (0)), .ref (91), .ref (92), .int (iI (sv.length)), .ref (93), .ref (94), .ref (95), .ref (96), .ref (97), .ref (98), .ref (99), .ref (100)] := by rw [ehh1]; exact ueh_s
  have fc3 : hh1 91 = cI 272 w := by rw [ehh1, ueh_n (by decide)]; exact m1
  refine g_iload_n (q := 6) rfl rfl dX8_partition_5 rfl ?_
  have hM0 : MRep hh1 0 S sv := hM.thr fc2 (fun j hj => by rw [ehh1, ueh_n hj])
  have fr0 : ∀ j, j ≠ 90 → hh1 j = h j := fun j hj => by rw [ehh1, ueh_n hj]
  refine g_Sr (q := 9) (d' := 1) (av := [.int (iI (i))]) (st := []) (v := .int (iI (1))) ksX8_60 (t_X8_isList1 l hh1 i (by omega) (by omega)) rfl (Nat.le_of_ble_eq_true rfl) ⟨(Nat.le_of_ble_eq_true rfl), (Nat.le_of_ble_eq_true rfl)⟩ ⟨(Nat.le_of_ble_eq_true rfl), (Nat.le_of_ble_eq_true rfl)⟩ rfl rfl dX8_partition_6 rfl ?_
  refine g_if_ne (t := 18) (q := 12) ⟨by omega, by omega⟩ dX8_partition_9 rfl rfl (fun c9 => ?_) (fun c9 => ?_)
  · refine g_aload_n (q := 19) rfl rfl dX8_partition_18 rfl ?_
    refine g_iload_n (q := 20) rfl rfl dX8_partition_19 rfl ?_
    refine g_Vv (q := 23) (d' := 4) (i := 90) (av := [.int (iI (i))]) (st := []) kvX8_114 (t_X8_lay l hh1 0 S sv hM0 i hi) (by decide) fc2 rfl (Nat.le_of_ble_eq_true rfl) ⟨(Nat.le_of_ble_eq_true rfl), (Nat.le_of_ble_eq_true rfl)⟩ ⟨(Nat.le_of_ble_eq_true rfl), (Nat.le_of_ble_eq_true rfl)⟩ rfl rfl dX8_partition_20 rfl (fun h1 hp => ?_)
    obtain ⟨l1, l2, l3⟩ := hp
    obtain ⟨bg9, mn9, b93, b94, emn, -⟩ := id l2.2
    have p64 := pn_64 l2.LOk
    obtain ⟨w1, pst1, bg1, mn1, lz1, A1, ⟨B1, -⟩, -, W1, -⟩ := id l1
    refine g_iload_n (q := 24) rfl rfl dX8_partition_23 rfl ?_
    refine g_iconst (q := 25) dX8_partition_24 rfl ?_
    refine g_aload_n (q := 26) rfl rfl dX8_partition_25 rfl ?_
    refine g_get (q := 29) fX8_19r (by decide) A1 rfl dX8_partition_26 rfl ?_
    refine g_iload_n (q := 30) rfl rfl dX8_partition_29 rfl ?_
    refine g_iaload (q := 31) (by decide) b94 (by omega) (by omega) (by decide) dX8_partition_30 rfl ?_
    rw [emn]
    refine g_iconst (q := 32) dX8_partition_31 rfl ?_
    refine g_isub (q := 33) dX8_partition_32 rfl ?_
    refine g_Sr (q := 36) (d' := 0) (av := [.int (iI (k)), .int (iI (0)), .int (iI ((pn (S.1 i).1 (S.1 i).2) - 1))]) (st := []) (v := .int (iI (0))) ksX8_45 (t_X8_in0 l h1 (k) (0) (pn (S.1 i).1 (S.1 i).2 - 1) hj ⟨by omega, by omega⟩ ⟨by omega, by omega⟩ (by omega)) rfl (Nat.le_of_ble_eq_true rfl) ⟨(Nat.le_of_ble_eq_true rfl), (Nat.le_of_ble_eq_true rfl)⟩ ⟨(Nat.le_of_ble_eq_true rfl), (Nat.le_of_ble_eq_true rfl)⟩ rfl rfl dX8_partition_33 rfl ?_
    refine g_if_ne (t := 45) (q := 39) ⟨by omega, by omega⟩ dX8_partition_36 rfl rfl (fun c36 => ?_) (fun c36 => ?_)
    · omega
    · refine g_aload_n (q := 40) rfl rfl dX8_partition_39 rfl ?_
      refine g_iconst (q := 41) dX8_partition_40 rfl ?_
      refine g_Vw (q := 44) (d' := 0) (i := 90) (av := [.int (iI (1))]) (st := []) kvX8_64 (t_X8_fails l h1 0 S sv l1 1) (by decide) A1 rfl (Nat.le_of_ble_eq_true rfl) ⟨(Nat.le_of_ble_eq_true rfl), (Nat.le_of_ble_eq_true rfl)⟩ ⟨(Nat.le_of_ble_eq_true rfl), (Nat.le_of_ble_eq_true rfl)⟩ rfl rfl dX8_partition_41 rfl (fun v hz hp => ?_)
      obtain ⟨rfl, p1, p2⟩ := hp
      exact g_ireturn (fun z => NN_f z) (Nat.le_of_ble_eq_true rfl) (Nat.le_of_ble_eq_true rfl) dX8_partition_44 rfl (wP_in ⟨rfl, p1, fun j hj => (p2 j (by omega)).trans ((l3 j (by omega)).trans (fr0 j (by omega)))⟩)
  · omega
set_option maxRecDepth 4000 in
theorem f3_X8_partition (l : Launch) (h : EHp) (th : Int) (S : ASt) (sv : List ASt) (hM : MRep h th S sv) (i : Nat) (hi : i < 4) (k t : Int) (hj : IR t) (k0 : 0 ≤ k) (hk : k < pn (S.1 i).1 (S.1 i).2) (hx : t < 0 ∨ 5 < t) : CT l mX8_partition 6 0 0 [.ref (90), .int (iI (i)), .int (iI (k)), .int (iI (t))] NN h (wP (fun v h' => v = .int (iI 0) ∧ MRep h' 2 S sv ∧ FrM h h')) := by
  obtain ⟨w, pst, bg, mn, lz, hA, ⟨m1, m2, m3, m4, m5⟩, ⟨⟨cs, s1⟩, ⟨ct, s2⟩, ⟨nx, s3⟩, ⟨fd, s4⟩, ⟨od, s5⟩⟩, hW, hP, hY⟩ := id hM
  obtain ⟨x1, x2, x3⟩ := hW.1 i hi
  obtain ⟨o1, o2, o3, o4⟩ := id x2
  refine CT.of (by decide) (Nat.le_of_ble_eq_true rfl) ?_
  refine g_al (al2 := [some (.ref (90)), some (.int (iI (i))), some (.int (iI (k))), some (.int (iI (t)))]) rfl ?_
  refine g_aload_n (q := 1) rfl rfl dX8_partition_0 rfl ?_
  refine g_iconst (q := 2) dX8_partition_1 rfl ?_
  refine g_put (q := 5) fX8_41 (by decide) hA (Nat.le_of_ble_eq_true rfl) (fun _ _ => rfl) (fun _ _ => rfl) dX8_partition_2 rfl ?_
  refine hp_in (fun hh1 ehh1 => ?_)
  have fc2 : hh1 90 = cO 7 [.int (iI (0)), .ref (91), .ref (92), .int (iI (sv.length)), .ref (93), .ref (94), .ref (95), .ref (96), .ref (97), .ref (98), .ref (99), .ref (100)] := by rw [ehh1]; exact ueh_s
  have fc3 : hh1 91 = cI 272 w := by rw [ehh1, ueh_n (by decide)]; exact m1
  refine g_iload_n (q := 6) rfl rfl dX8_partition_5 rfl ?_
  have hM0 : MRep hh1 0 S sv := hM.thr fc2 (fun j hj => by rw [ehh1, ueh_n hj])
  have fr0 : ∀ j, j ≠ 90 → hh1 j = h j := fun j hj => by rw [ehh1, ueh_n hj]
  refine g_Sr (q := 9) (d' := 1) (av := [.int (iI (i))]) (st := []) (v := .int (iI (1))) ksX8_60 (t_X8_isList1 l hh1 i (by omega) (by omega)) rfl (Nat.le_of_ble_eq_true rfl) ⟨(Nat.le_of_ble_eq_true rfl), (Nat.le_of_ble_eq_true rfl)⟩ ⟨(Nat.le_of_ble_eq_true rfl), (Nat.le_of_ble_eq_true rfl)⟩ rfl rfl dX8_partition_6 rfl ?_
  refine g_if_ne (t := 18) (q := 12) ⟨by omega, by omega⟩ dX8_partition_9 rfl rfl (fun c9 => ?_) (fun c9 => ?_)
  · refine g_aload_n (q := 19) rfl rfl dX8_partition_18 rfl ?_
    refine g_iload_n (q := 20) rfl rfl dX8_partition_19 rfl ?_
    refine g_Vv (q := 23) (d' := 4) (i := 90) (av := [.int (iI (i))]) (st := []) kvX8_114 (t_X8_lay l hh1 0 S sv hM0 i hi) (by decide) fc2 rfl (Nat.le_of_ble_eq_true rfl) ⟨(Nat.le_of_ble_eq_true rfl), (Nat.le_of_ble_eq_true rfl)⟩ ⟨(Nat.le_of_ble_eq_true rfl), (Nat.le_of_ble_eq_true rfl)⟩ rfl rfl dX8_partition_20 rfl (fun h1 hp => ?_)
    obtain ⟨l1, l2, l3⟩ := hp
    obtain ⟨bg9, mn9, b93, b94, emn, -⟩ := id l2.2
    have p64 := pn_64 l2.LOk
    obtain ⟨w1, pst1, bg1, mn1, lz1, A1, ⟨B1, -⟩, -, W1, -⟩ := id l1
    refine g_iload_n (q := 24) rfl rfl dX8_partition_23 rfl ?_
    refine g_iconst (q := 25) dX8_partition_24 rfl ?_
    refine g_aload_n (q := 26) rfl rfl dX8_partition_25 rfl ?_
    refine g_get (q := 29) fX8_19r (by decide) A1 rfl dX8_partition_26 rfl ?_
    refine g_iload_n (q := 30) rfl rfl dX8_partition_29 rfl ?_
    refine g_iaload (q := 31) (by decide) b94 (by omega) (by omega) (by decide) dX8_partition_30 rfl ?_
    rw [emn]
    refine g_iconst (q := 32) dX8_partition_31 rfl ?_
    refine g_isub (q := 33) dX8_partition_32 rfl ?_
    refine g_Sr (q := 36) (d' := 0) (av := [.int (iI (k)), .int (iI (0)), .int (iI ((pn (S.1 i).1 (S.1 i).2) - 1))]) (st := []) (v := .int (iI (1))) ksX8_45 (t_X8_in1 l h1 (k) (0) (pn (S.1 i).1 (S.1 i).2 - 1) ⟨by omega, by omega⟩ ⟨by omega, by omega⟩ ⟨by omega, by omega⟩ (by omega) (by omega)) rfl (Nat.le_of_ble_eq_true rfl) ⟨(Nat.le_of_ble_eq_true rfl), (Nat.le_of_ble_eq_true rfl)⟩ ⟨(Nat.le_of_ble_eq_true rfl), (Nat.le_of_ble_eq_true rfl)⟩ rfl rfl dX8_partition_33 rfl ?_
    refine g_if_ne (t := 45) (q := 39) ⟨by omega, by omega⟩ dX8_partition_36 rfl rfl (fun c36 => ?_) (fun c36 => ?_)
    · refine g_iload_n (q := 46) rfl rfl dX8_partition_45 rfl ?_
      refine g_iconst (q := 47) dX8_partition_46 rfl ?_
      refine g_iconst (q := 48) dX8_partition_47 rfl ?_
      refine g_Sr (q := 51) (d' := 0) (av := [.int (iI (t)), .int (iI (0)), .int (iI (5))]) (st := []) (v := .int (iI (0))) ksX8_45 (t_X8_in0 l h1 (t) (0) (5) hj ⟨by omega, by omega⟩ ⟨by omega, by omega⟩ (by omega)) rfl (Nat.le_of_ble_eq_true rfl) ⟨(Nat.le_of_ble_eq_true rfl), (Nat.le_of_ble_eq_true rfl)⟩ ⟨(Nat.le_of_ble_eq_true rfl), (Nat.le_of_ble_eq_true rfl)⟩ rfl rfl dX8_partition_48 rfl ?_
      refine g_if_eq (t := 64) (q := 54) ⟨by omega, by omega⟩ dX8_partition_51 rfl rfl (fun c51 => ?_) (fun c51 => ?_)
      · refine g_aload_n (q := 65) rfl rfl dX8_partition_64 rfl ?_
        refine g_iconst (q := 66) dX8_partition_65 rfl ?_
        refine g_Vw (q := 69) (d' := 0) (i := 90) (av := [.int (iI (2))]) (st := []) kvX8_64 (t_X8_fails l h1 0 S sv l1 2) (by decide) A1 rfl (Nat.le_of_ble_eq_true rfl) ⟨(Nat.le_of_ble_eq_true rfl), (Nat.le_of_ble_eq_true rfl)⟩ ⟨(Nat.le_of_ble_eq_true rfl), (Nat.le_of_ble_eq_true rfl)⟩ rfl rfl dX8_partition_66 rfl (fun v hz hp => ?_)
        obtain ⟨rfl, p1, p2⟩ := hp
        exact g_ireturn (fun z => NN_f z) (Nat.le_of_ble_eq_true rfl) (Nat.le_of_ble_eq_true rfl) dX8_partition_69 rfl (wP_in ⟨rfl, p1, fun j hj => (p2 j (by omega)).trans ((l3 j (by omega)).trans (fr0 j (by omega)))⟩)
      · omega
    · omega
  · omega
set_option maxRecDepth 4000 in
theorem t_X8_codeLength (l : Launch) (h : EHp) (th : Int) (S : ASt) (sv : List ASt) (hM : MRep h th S sv) (i : Nat) (hi : i < 4) : CT l mX8_codeLength 7 0 0 [.ref (90), .int (iI (i))] NN h (wP (fun v h' => v = .int (iI (szP (S.1 i).1 (S.1 i).2 (pn (S.1 i).1 (S.1 i).2))) ∧ MRep h' 0 S sv ∧ FrM h h')) := by
  obtain ⟨w, pst, bg, mn, lz, hA, ⟨m1, m2, m3, m4, m5⟩, ⟨⟨cs, s1⟩, ⟨ct, s2⟩, ⟨nx, s3⟩, ⟨fd, s4⟩, ⟨od, s5⟩⟩, hW, hP, hY⟩ := id hM
  obtain ⟨x1, x2, x3⟩ := hW.1 i hi
  obtain ⟨o1, o2, o3, o4⟩ := id x2
  refine CT.of (by decide) (Nat.le_of_ble_eq_true rfl) ?_
  refine g_al (al2 := [some (.ref (90)), some (.int (iI (i)))]) rfl ?_
  refine g_aload_n (q := 1) rfl rfl dX8_codeLength_0 rfl ?_
  refine g_iconst (q := 2) dX8_codeLength_1 rfl ?_
  refine g_put (q := 5) fX8_41 (by decide) hA (Nat.le_of_ble_eq_true rfl) (fun _ _ => rfl) (fun _ _ => rfl) dX8_codeLength_2 rfl ?_
  refine hp_in (fun hh1 ehh1 => ?_)
  have fc2 : hh1 90 = cO 7 [.int (iI (0)), .ref (91), .ref (92), .int (iI (sv.length)), .ref (93), .ref (94), .ref (95), .ref (96), .ref (97), .ref (98), .ref (99), .ref (100)] := by rw [ehh1]; exact ueh_s
  have fc3 : hh1 91 = cI 272 w := by rw [ehh1, ueh_n (by decide)]; exact m1
  refine g_iload_n (q := 6) rfl rfl dX8_codeLength_5 rfl ?_
  have hM0 : MRep hh1 0 S sv := hM.thr fc2 (fun j hj => by rw [ehh1, ueh_n hj])
  have fr0 : ∀ j, j ≠ 90 → hh1 j = h j := fun j hj => by rw [ehh1, ueh_n hj]
  refine g_Sr (q := 9) (d' := 1) (av := [.int (iI (i))]) (st := []) (v := .int (iI (1))) ksX8_60 (t_X8_isList1 l hh1 i (by omega) (by omega)) rfl (Nat.le_of_ble_eq_true rfl) ⟨(Nat.le_of_ble_eq_true rfl), (Nat.le_of_ble_eq_true rfl)⟩ ⟨(Nat.le_of_ble_eq_true rfl), (Nat.le_of_ble_eq_true rfl)⟩ rfl rfl dX8_codeLength_6 rfl ?_
  refine g_if_eq (t := 20) (q := 12) ⟨by omega, by omega⟩ dX8_codeLength_9 rfl rfl (fun c9 => ?_) (fun c9 => ?_)
  · omega
  · refine g_aload_n (q := 13) rfl rfl dX8_codeLength_12 rfl ?_
    refine g_iload_n (q := 14) rfl rfl dX8_codeLength_13 rfl ?_
    refine g_Vw (q := 17) (d' := 6) (i := 90) (av := [.int (iI (i))]) (st := []) kvX8_123 (t_X8_bitsOf l hh1 0 S sv hM0 i hi) (by decide) fc2 rfl (Nat.le_of_ble_eq_true rfl) ⟨(Nat.le_of_ble_eq_true rfl), (Nat.le_of_ble_eq_true rfl)⟩ ⟨(Nat.le_of_ble_eq_true rfl), (Nat.le_of_ble_eq_true rfl)⟩ rfl rfl dX8_codeLength_14 rfl (fun v h1 hp => ?_)
    obtain ⟨rfl, l1, l2, l3⟩ := hp
    have hsz := szP_le l2.LOk (pn_ok (f := (S.1 i).2) o1).1 (Nat.le_refl (pn (S.1 i).1 (S.1 i).2))
    obtain ⟨w1, pst1, bg1, mn1, lz1, A1, ⟨B1, -⟩, -, W1, -⟩ := id l1
    refine g_goto (q := 25) dX8_codeLength_17 rfl ?_
    exact g_ireturn (fun z => NN_f z) (Nat.le_of_ble_eq_true rfl) (Nat.le_of_ble_eq_true rfl) dX8_codeLength_25 rfl (wP_in ⟨rfl, l1, fun j hj => (l3 j (by omega)).trans (fr0 j (by omega))⟩)
set_option maxRecDepth 4000 in
theorem f_X8_codeLength (l : Launch) (h : EHp) (th : Int) (S : ASt) (sv : List ASt) (hM : MRep h th S sv) (i : Int) (hi : IR i) (h0 : i < 0 ∨ 4 ≤ i) : CT l mX8_codeLength 7 0 0 [.ref (90), .int (iI (i))] NN h (wP (fun v h' => v = .int (iI 0) ∧ MRep h' 1 S sv ∧ FrM h h')) := by
  obtain ⟨w, pst, bg, mn, lz, hA, ⟨m1, m2, m3, m4, m5⟩, ⟨⟨cs, s1⟩, ⟨ct, s2⟩, ⟨nx, s3⟩, ⟨fd, s4⟩, ⟨od, s5⟩⟩, hW, hP, hY⟩ := id hM
  refine CT.of (by decide) (Nat.le_of_ble_eq_true rfl) ?_
  refine g_al (al2 := [some (.ref (90)), some (.int (iI (i)))]) rfl ?_
  refine g_aload_n (q := 1) rfl rfl dX8_codeLength_0 rfl ?_
  refine g_iconst (q := 2) dX8_codeLength_1 rfl ?_
  refine g_put (q := 5) fX8_41 (by decide) hA (Nat.le_of_ble_eq_true rfl) (fun _ _ => rfl) (fun _ _ => rfl) dX8_codeLength_2 rfl ?_
  refine hp_in (fun hh1 ehh1 => ?_)
  have fc2 : hh1 90 = cO 7 [.int (iI (0)), .ref (91), .ref (92), .int (iI (sv.length)), .ref (93), .ref (94), .ref (95), .ref (96), .ref (97), .ref (98), .ref (99), .ref (100)] := by rw [ehh1]; exact ueh_s
  have fc3 : hh1 91 = cI 272 w := by rw [ehh1, ueh_n (by decide)]; exact m1
  refine g_iload_n (q := 6) rfl rfl dX8_codeLength_5 rfl ?_
  have hM0 : MRep hh1 0 S sv := hM.thr fc2 (fun j hj => by rw [ehh1, ueh_n hj])
  have fr0 : ∀ j, j ≠ 90 → hh1 j = h j := fun j hj => by rw [ehh1, ueh_n hj]
  refine g_Sr (q := 9) (d' := 1) (av := [.int (iI (i))]) (st := []) (v := .int (iI (0))) ksX8_60 (t_X8_isList0 l hh1 i hi (by omega)) rfl (Nat.le_of_ble_eq_true rfl) ⟨(Nat.le_of_ble_eq_true rfl), (Nat.le_of_ble_eq_true rfl)⟩ ⟨(Nat.le_of_ble_eq_true rfl), (Nat.le_of_ble_eq_true rfl)⟩ rfl rfl dX8_codeLength_6 rfl ?_
  refine g_if_eq (t := 20) (q := 12) ⟨by omega, by omega⟩ dX8_codeLength_9 rfl rfl (fun c9 => ?_) (fun c9 => ?_)
  · refine g_aload_n (q := 21) rfl rfl dX8_codeLength_20 rfl ?_
    refine g_iconst (q := 22) dX8_codeLength_21 rfl ?_
    refine g_Vw (q := 25) (d' := 0) (i := 90) (av := [.int (iI (1))]) (st := []) kvX8_64 (t_X8_fails l hh1 0 S sv hM0 1) (by decide) fc2 rfl (Nat.le_of_ble_eq_true rfl) ⟨(Nat.le_of_ble_eq_true rfl), (Nat.le_of_ble_eq_true rfl)⟩ ⟨(Nat.le_of_ble_eq_true rfl), (Nat.le_of_ble_eq_true rfl)⟩ rfl rfl dX8_codeLength_22 rfl (fun v hz hp => ?_)
    obtain ⟨rfl, p1, p2⟩ := hp
    exact g_ireturn (fun z => NN_f z) (Nat.le_of_ble_eq_true rfl) (Nat.le_of_ble_eq_true rfl) dX8_codeLength_25 rfl (wP_in ⟨rfl, p1, fun j hj => (p2 j (by omega)).trans (fr0 j (by omega))⟩)
  · omega
set_option maxRecDepth 4000 in
theorem t_X8_codeBit (l : Launch) (h : EHp) (th : Int) (S : ASt) (sv : List ASt) (hM : MRep h th S sv) (i : Nat) (hi : i < 4) (j : Int) (j0 : 0 ≤ j) (j1 : j < szP (S.1 i).1 (S.1 i).2 (pn (S.1 i).1 (S.1 i).2)) : CT l mX8_codeBit 7 0 0 [.ref (90), .int (iI (i)), .int (iI (j))] NN h (wP (fun v h' => v = .int (iI (cbit (S.1 i).1 (S.1 i).2 j)) ∧ MRep h' 0 S sv ∧ FrM h h')) := by
  obtain ⟨w, pst, bg, mn, lz, hA, ⟨m1, m2, m3, m4, m5⟩, ⟨⟨cs, s1⟩, ⟨ct, s2⟩, ⟨nx, s3⟩, ⟨fd, s4⟩, ⟨od, s5⟩⟩, hW, hP, hY⟩ := id hM
  obtain ⟨x1, x2, x3⟩ := hW.1 i hi
  obtain ⟨o1, o2, o3, o4⟩ := id x2
  refine CT.of (by decide) (Nat.le_of_ble_eq_true rfl) ?_
  refine g_al (al2 := [some (.ref (90)), some (.int (iI (i))), some (.int (iI (j)))]) rfl ?_
  refine g_aload_n (q := 1) rfl rfl dX8_codeBit_0 rfl ?_
  refine g_iconst (q := 2) dX8_codeBit_1 rfl ?_
  refine g_put (q := 5) fX8_41 (by decide) hA (Nat.le_of_ble_eq_true rfl) (fun _ _ => rfl) (fun _ _ => rfl) dX8_codeBit_2 rfl ?_
  refine hp_in (fun hh1 ehh1 => ?_)
  have fc2 : hh1 90 = cO 7 [.int (iI (0)), .ref (91), .ref (92), .int (iI (sv.length)), .ref (93), .ref (94), .ref (95), .ref (96), .ref (97), .ref (98), .ref (99), .ref (100)] := by rw [ehh1]; exact ueh_s
  have fc3 : hh1 91 = cI 272 w := by rw [ehh1, ueh_n (by decide)]; exact m1
  refine g_iload_n (q := 6) rfl rfl dX8_codeBit_5 rfl ?_
  have hM0 : MRep hh1 0 S sv := hM.thr fc2 (fun j hj => by rw [ehh1, ueh_n hj])
  have fr0 : ∀ j, j ≠ 90 → hh1 j = h j := fun j hj => by rw [ehh1, ueh_n hj]
  refine g_Sr (q := 9) (d' := 1) (av := [.int (iI (i))]) (st := []) (v := .int (iI (1))) ksX8_60 (t_X8_isList1 l hh1 i (by omega) (by omega)) rfl (Nat.le_of_ble_eq_true rfl) ⟨(Nat.le_of_ble_eq_true rfl), (Nat.le_of_ble_eq_true rfl)⟩ ⟨(Nat.le_of_ble_eq_true rfl), (Nat.le_of_ble_eq_true rfl)⟩ rfl rfl dX8_codeBit_6 rfl ?_
  refine g_if_eq (t := 36) (q := 12) ⟨by omega, by omega⟩ dX8_codeBit_9 rfl rfl (fun c9 => ?_) (fun c9 => ?_)
  · omega
  · refine g_iload_n (q := 13) rfl rfl dX8_codeBit_12 rfl ?_
    refine g_iconst (q := 14) dX8_codeBit_13 rfl ?_
    refine g_aload_n (q := 15) rfl rfl dX8_codeBit_14 rfl ?_
    refine g_iload_n (q := 16) rfl rfl dX8_codeBit_15 rfl ?_
    refine g_Vw (q := 19) (d' := 6) (i := 90) (av := [.int (iI (i))]) (st := [.int (iI (0)), .int (iI (j))]) kvX8_123 (t_X8_bitsOf l hh1 0 S sv hM0 i hi) (by decide) fc2 rfl (Nat.le_of_ble_eq_true rfl) ⟨(Nat.le_of_ble_eq_true rfl), (Nat.le_of_ble_eq_true rfl)⟩ ⟨(Nat.le_of_ble_eq_true rfl), (Nat.le_of_ble_eq_true rfl)⟩ rfl rfl dX8_codeBit_16 rfl (fun v h1 hp => ?_)
    obtain ⟨rfl, l1, l2, l3⟩ := hp
    have hsz := szP_le l2.LOk (pn_ok (f := (S.1 i).2) o1).1 (Nat.le_refl (pn (S.1 i).1 (S.1 i).2))
    obtain ⟨w1, pst1, bg1, mn1, lz1, A1, ⟨B1, -⟩, -, W1, -⟩ := id l1
    refine g_iconst (q := 20) dX8_codeBit_19 rfl ?_
    refine g_isub (q := 21) dX8_codeBit_20 rfl ?_
    refine g_Sr (q := 24) (d' := 0) (av := [.int (iI (j)), .int (iI (0)), .int (iI ((szP (S.1 i).1 (S.1 i).2 (pn (S.1 i).1 (S.1 i).2)) - 1))]) (st := []) (v := .int (iI (1))) ksX8_45 (t_X8_in1 l h1 (j) (0) (szP (S.1 i).1 (S.1 i).2 (pn (S.1 i).1 (S.1 i).2) - 1) ⟨by omega, by omega⟩ ⟨by omega, by omega⟩ ⟨by omega, by omega⟩ (by omega) (by omega)) rfl (Nat.le_of_ble_eq_true rfl) ⟨(Nat.le_of_ble_eq_true rfl), (Nat.le_of_ble_eq_true rfl)⟩ ⟨(Nat.le_of_ble_eq_true rfl), (Nat.le_of_ble_eq_true rfl)⟩ rfl rfl dX8_codeBit_21 rfl ?_
    refine g_if_eq (t := 36) (q := 27) ⟨by omega, by omega⟩ dX8_codeBit_24 rfl rfl (fun c24 => ?_) (fun c24 => ?_)
    · omega
    · refine g_aload_n (q := 28) rfl rfl dX8_codeBit_27 rfl ?_
      refine g_iload_n (q := 29) rfl rfl dX8_codeBit_28 rfl ?_
      refine g_iload_n (q := 30) rfl rfl dX8_codeBit_29 rfl ?_
      refine g_Vr (q := 33) (d' := 6) (i := 90) (av := [.int (iI (i)), .int (iI (j))]) (st := []) (v := .int (iI (cbit (S.1 i).1 (S.1 i).2 j))) kvX8_132 (t_X8_bitOf l h1 i (S.1 i).1 (S.1 i).2 l2 j j0 j1) (by decide) A1 rfl (Nat.le_of_ble_eq_true rfl) ⟨(Nat.le_of_ble_eq_true rfl), (Nat.le_of_ble_eq_true rfl)⟩ ⟨(Nat.le_of_ble_eq_true rfl), (Nat.le_of_ble_eq_true rfl)⟩ rfl rfl dX8_codeBit_30 rfl ?_
      refine g_goto (q := 41) dX8_codeBit_33 rfl ?_
      exact g_ireturn (fun z => NN_f z) (Nat.le_of_ble_eq_true rfl) (Nat.le_of_ble_eq_true rfl) dX8_codeBit_41 rfl (wP_in ⟨rfl, l1, fun j hj => (l3 j (by omega)).trans (fr0 j (by omega))⟩)
set_option maxRecDepth 4000 in
theorem f_X8_codeBit (l : Launch) (h : EHp) (th : Int) (S : ASt) (sv : List ASt) (hM : MRep h th S sv) (i : Int) (hi : IR i) (h0 : i < 0 ∨ 4 ≤ i) (j : Int) : CT l mX8_codeBit 7 0 0 [.ref (90), .int (iI (i)), .int (iI (j))] NN h (wP (fun v h' => v = .int (iI 0) ∧ MRep h' 1 S sv ∧ FrM h h')) := by
  obtain ⟨w, pst, bg, mn, lz, hA, ⟨m1, m2, m3, m4, m5⟩, ⟨⟨cs, s1⟩, ⟨ct, s2⟩, ⟨nx, s3⟩, ⟨fd, s4⟩, ⟨od, s5⟩⟩, hW, hP, hY⟩ := id hM
  refine CT.of (by decide) (Nat.le_of_ble_eq_true rfl) ?_
  refine g_al (al2 := [some (.ref (90)), some (.int (iI (i))), some (.int (iI (j)))]) rfl ?_
  refine g_aload_n (q := 1) rfl rfl dX8_codeBit_0 rfl ?_
  refine g_iconst (q := 2) dX8_codeBit_1 rfl ?_
  refine g_put (q := 5) fX8_41 (by decide) hA (Nat.le_of_ble_eq_true rfl) (fun _ _ => rfl) (fun _ _ => rfl) dX8_codeBit_2 rfl ?_
  refine hp_in (fun hh1 ehh1 => ?_)
  have fc2 : hh1 90 = cO 7 [.int (iI (0)), .ref (91), .ref (92), .int (iI (sv.length)), .ref (93), .ref (94), .ref (95), .ref (96), .ref (97), .ref (98), .ref (99), .ref (100)] := by rw [ehh1]; exact ueh_s
  have fc3 : hh1 91 = cI 272 w := by rw [ehh1, ueh_n (by decide)]; exact m1
  refine g_iload_n (q := 6) rfl rfl dX8_codeBit_5 rfl ?_
  have hM0 : MRep hh1 0 S sv := hM.thr fc2 (fun j hj => by rw [ehh1, ueh_n hj])
  have fr0 : ∀ j, j ≠ 90 → hh1 j = h j := fun j hj => by rw [ehh1, ueh_n hj]
  refine g_Sr (q := 9) (d' := 1) (av := [.int (iI (i))]) (st := []) (v := .int (iI (0))) ksX8_60 (t_X8_isList0 l hh1 i hi (by omega)) rfl (Nat.le_of_ble_eq_true rfl) ⟨(Nat.le_of_ble_eq_true rfl), (Nat.le_of_ble_eq_true rfl)⟩ ⟨(Nat.le_of_ble_eq_true rfl), (Nat.le_of_ble_eq_true rfl)⟩ rfl rfl dX8_codeBit_6 rfl ?_
  refine g_if_eq (t := 36) (q := 12) ⟨by omega, by omega⟩ dX8_codeBit_9 rfl rfl (fun c9 => ?_) (fun c9 => ?_)
  · refine g_aload_n (q := 37) rfl rfl dX8_codeBit_36 rfl ?_
    refine g_iconst (q := 38) dX8_codeBit_37 rfl ?_
    refine g_Vw (q := 41) (d' := 0) (i := 90) (av := [.int (iI (1))]) (st := []) kvX8_64 (t_X8_fails l hh1 0 S sv hM0 1) (by decide) fc2 rfl (Nat.le_of_ble_eq_true rfl) ⟨(Nat.le_of_ble_eq_true rfl), (Nat.le_of_ble_eq_true rfl)⟩ ⟨(Nat.le_of_ble_eq_true rfl), (Nat.le_of_ble_eq_true rfl)⟩ rfl rfl dX8_codeBit_38 rfl (fun v hz hp => ?_)
    obtain ⟨rfl, p1, p2⟩ := hp
    exact g_ireturn (fun z => NN_f z) (Nat.le_of_ble_eq_true rfl) (Nat.le_of_ble_eq_true rfl) dX8_codeBit_41 rfl (wP_in ⟨rfl, p1, fun j hj => (p2 j (by omega)).trans (fr0 j (by omega))⟩)
  · omega
set_option maxRecDepth 4000 in
theorem f2_X8_codeBit (l : Launch) (h : EHp) (th : Int) (S : ASt) (sv : List ASt) (hM : MRep h th S sv) (i : Nat) (hi : i < 4) (j : Int) (hj : IR j) (hx : j < 0 ∨ szP (S.1 i).1 (S.1 i).2 (pn (S.1 i).1 (S.1 i).2) ≤ j) : CT l mX8_codeBit 7 0 0 [.ref (90), .int (iI (i)), .int (iI (j))] NN h (wP (fun v h' => v = .int (iI 0) ∧ MRep h' 1 S sv ∧ FrM h h')) := by
  obtain ⟨w, pst, bg, mn, lz, hA, ⟨m1, m2, m3, m4, m5⟩, ⟨⟨cs, s1⟩, ⟨ct, s2⟩, ⟨nx, s3⟩, ⟨fd, s4⟩, ⟨od, s5⟩⟩, hW, hP, hY⟩ := id hM
  obtain ⟨x1, x2, x3⟩ := hW.1 i hi
  obtain ⟨o1, o2, o3, o4⟩ := id x2
  refine CT.of (by decide) (Nat.le_of_ble_eq_true rfl) ?_
  refine g_al (al2 := [some (.ref (90)), some (.int (iI (i))), some (.int (iI (j)))]) rfl ?_
  refine g_aload_n (q := 1) rfl rfl dX8_codeBit_0 rfl ?_
  refine g_iconst (q := 2) dX8_codeBit_1 rfl ?_
  refine g_put (q := 5) fX8_41 (by decide) hA (Nat.le_of_ble_eq_true rfl) (fun _ _ => rfl) (fun _ _ => rfl) dX8_codeBit_2 rfl ?_
  refine hp_in (fun hh1 ehh1 => ?_)
  have fc2 : hh1 90 = cO 7 [.int (iI (0)), .ref (91), .ref (92), .int (iI (sv.length)), .ref (93), .ref (94), .ref (95), .ref (96), .ref (97), .ref (98), .ref (99), .ref (100)] := by rw [ehh1]; exact ueh_s
  have fc3 : hh1 91 = cI 272 w := by rw [ehh1, ueh_n (by decide)]; exact m1
  refine g_iload_n (q := 6) rfl rfl dX8_codeBit_5 rfl ?_
  have hM0 : MRep hh1 0 S sv := hM.thr fc2 (fun j hj => by rw [ehh1, ueh_n hj])
  have fr0 : ∀ j, j ≠ 90 → hh1 j = h j := fun j hj => by rw [ehh1, ueh_n hj]
  refine g_Sr (q := 9) (d' := 1) (av := [.int (iI (i))]) (st := []) (v := .int (iI (1))) ksX8_60 (t_X8_isList1 l hh1 i (by omega) (by omega)) rfl (Nat.le_of_ble_eq_true rfl) ⟨(Nat.le_of_ble_eq_true rfl), (Nat.le_of_ble_eq_true rfl)⟩ ⟨(Nat.le_of_ble_eq_true rfl), (Nat.le_of_ble_eq_true rfl)⟩ rfl rfl dX8_codeBit_6 rfl ?_
  refine g_if_eq (t := 36) (q := 12) ⟨by omega, by omega⟩ dX8_codeBit_9 rfl rfl (fun c9 => ?_) (fun c9 => ?_)
  · omega
  · refine g_iload_n (q := 13) rfl rfl dX8_codeBit_12 rfl ?_
    refine g_iconst (q := 14) dX8_codeBit_13 rfl ?_
    refine g_aload_n (q := 15) rfl rfl dX8_codeBit_14 rfl ?_
    refine g_iload_n (q := 16) rfl rfl dX8_codeBit_15 rfl ?_
    refine g_Vw (q := 19) (d' := 6) (i := 90) (av := [.int (iI (i))]) (st := [.int (iI (0)), .int (iI (j))]) kvX8_123 (t_X8_bitsOf l hh1 0 S sv hM0 i hi) (by decide) fc2 rfl (Nat.le_of_ble_eq_true rfl) ⟨(Nat.le_of_ble_eq_true rfl), (Nat.le_of_ble_eq_true rfl)⟩ ⟨(Nat.le_of_ble_eq_true rfl), (Nat.le_of_ble_eq_true rfl)⟩ rfl rfl dX8_codeBit_16 rfl (fun v h1 hp => ?_)
    obtain ⟨rfl, l1, l2, l3⟩ := hp
    have hsz := szP_le l2.LOk (pn_ok (f := (S.1 i).2) o1).1 (Nat.le_refl (pn (S.1 i).1 (S.1 i).2))
    obtain ⟨w1, pst1, bg1, mn1, lz1, A1, ⟨B1, -⟩, -, W1, -⟩ := id l1
    refine g_iconst (q := 20) dX8_codeBit_19 rfl ?_
    refine g_isub (q := 21) dX8_codeBit_20 rfl ?_
    refine g_Sr (q := 24) (d' := 0) (av := [.int (iI (j)), .int (iI (0)), .int (iI ((szP (S.1 i).1 (S.1 i).2 (pn (S.1 i).1 (S.1 i).2)) - 1))]) (st := []) (v := .int (iI (0))) ksX8_45 (t_X8_in0 l h1 (j) (0) (szP (S.1 i).1 (S.1 i).2 (pn (S.1 i).1 (S.1 i).2) - 1) hj ⟨by omega, by omega⟩ ⟨by omega, by omega⟩ (by omega)) rfl (Nat.le_of_ble_eq_true rfl) ⟨(Nat.le_of_ble_eq_true rfl), (Nat.le_of_ble_eq_true rfl)⟩ ⟨(Nat.le_of_ble_eq_true rfl), (Nat.le_of_ble_eq_true rfl)⟩ rfl rfl dX8_codeBit_21 rfl ?_
    refine g_if_eq (t := 36) (q := 27) ⟨by omega, by omega⟩ dX8_codeBit_24 rfl rfl (fun c24 => ?_) (fun c24 => ?_)
    · refine g_aload_n (q := 37) rfl rfl dX8_codeBit_36 rfl ?_
      refine g_iconst (q := 38) dX8_codeBit_37 rfl ?_
      refine g_Vw (q := 41) (d' := 0) (i := 90) (av := [.int (iI (1))]) (st := []) kvX8_64 (t_X8_fails l h1 0 S sv l1 1) (by decide) A1 rfl (Nat.le_of_ble_eq_true rfl) ⟨(Nat.le_of_ble_eq_true rfl), (Nat.le_of_ble_eq_true rfl)⟩ ⟨(Nat.le_of_ble_eq_true rfl), (Nat.le_of_ble_eq_true rfl)⟩ rfl rfl dX8_codeBit_38 rfl (fun v hz hp => ?_)
      obtain ⟨rfl, p1, p2⟩ := hp
      exact g_ireturn (fun z => NN_f z) (Nat.le_of_ble_eq_true rfl) (Nat.le_of_ble_eq_true rfl) dX8_codeBit_41 rfl (wP_in ⟨rfl, p1, fun j hj => (p2 j (by omega)).trans ((l3 j (by omega)).trans (fr0 j (by omega)))⟩)
    · omega
set_option maxRecDepth 4000 in
theorem t_X8_fixedLength (l : Launch) (h : EHp) (th : Int) (S : ASt) (sv : List ASt) (hM : MRep h th S sv) (i : Nat) (hi : i < 4) (n : Int) (y0 : 1 ≤ n) (y1 : n ≤ 64) : CT l mX8_fixedLength 4 0 0 [.ref (90), .int (iI (i)), .int (iI (n))] NN h (wP (fun v h' => v = .int (iI (flen (S.1 i).1 (S.1 i).2 n)) ∧ MRep h' 0 S sv ∧ FrM h h')) := by
  obtain ⟨w, pst, bg, mn, lz, hA, ⟨m1, m2, m3, m4, m5⟩, ⟨⟨cs, s1⟩, ⟨ct, s2⟩, ⟨nx, s3⟩, ⟨fd, s4⟩, ⟨od, s5⟩⟩, hW, hP, hY⟩ := id hM
  obtain ⟨x1, x2, x3⟩ := hW.1 i hi
  obtain ⟨o1, o2, o3, o4⟩ := id x2
  refine CT.of (by decide) (Nat.le_of_ble_eq_true rfl) ?_
  refine g_al (al2 := [some (.ref (90)), some (.int (iI (i))), some (.int (iI (n))), none, none]) rfl ?_
  refine g_aload_n (q := 1) rfl rfl dX8_fixedLength_0 rfl ?_
  refine g_iconst (q := 2) dX8_fixedLength_1 rfl ?_
  refine g_put (q := 5) fX8_41 (by decide) hA (Nat.le_of_ble_eq_true rfl) (fun _ _ => rfl) (fun _ _ => rfl) dX8_fixedLength_2 rfl ?_
  refine hp_in (fun hh1 ehh1 => ?_)
  have fc2 : hh1 90 = cO 7 [.int (iI (0)), .ref (91), .ref (92), .int (iI (sv.length)), .ref (93), .ref (94), .ref (95), .ref (96), .ref (97), .ref (98), .ref (99), .ref (100)] := by rw [ehh1]; exact ueh_s
  have fc3 : hh1 91 = cI 272 w := by rw [ehh1, ueh_n (by decide)]; exact m1
  refine g_iload_n (q := 6) rfl rfl dX8_fixedLength_5 rfl ?_
  have hM0 : MRep hh1 0 S sv := hM.thr fc2 (fun j hj => by rw [ehh1, ueh_n hj])
  have fr0 : ∀ j, j ≠ 90 → hh1 j = h j := fun j hj => by rw [ehh1, ueh_n hj]
  refine g_Sr (q := 9) (d' := 1) (av := [.int (iI (i))]) (st := []) (v := .int (iI (1))) ksX8_60 (t_X8_isList1 l hh1 i (by omega) (by omega)) rfl (Nat.le_of_ble_eq_true rfl) ⟨(Nat.le_of_ble_eq_true rfl), (Nat.le_of_ble_eq_true rfl)⟩ ⟨(Nat.le_of_ble_eq_true rfl), (Nat.le_of_ble_eq_true rfl)⟩ rfl rfl dX8_fixedLength_6 rfl ?_
  refine g_if_ne (t := 18) (q := 12) ⟨by omega, by omega⟩ dX8_fixedLength_9 rfl rfl (fun c9 => ?_) (fun c9 => ?_)
  · refine g_iload_n (q := 19) rfl rfl dX8_fixedLength_18 rfl ?_
    refine g_iconst (q := 20) dX8_fixedLength_19 rfl ?_
    refine g_bipush (q := 22) (by decide) dX8_fixedLength_20 rfl ?_
    refine g_Sr (q := 25) (d' := 0) (av := [.int (iI (n)), .int (iI (1)), .int (iI (64))]) (st := []) (v := .int (iI (1))) ksX8_45 (t_X8_in1 l hh1 (n) (1) (64) ⟨by omega, by omega⟩ ⟨by omega, by omega⟩ ⟨by omega, by omega⟩ (by omega) (by omega)) rfl (Nat.le_of_ble_eq_true rfl) ⟨(Nat.le_of_ble_eq_true rfl), (Nat.le_of_ble_eq_true rfl)⟩ ⟨(Nat.le_of_ble_eq_true rfl), (Nat.le_of_ble_eq_true rfl)⟩ rfl rfl dX8_fixedLength_22 rfl ?_
    refine g_if_ne (t := 34) (q := 28) ⟨by omega, by omega⟩ dX8_fixedLength_25 rfl rfl (fun c25 => ?_) (fun c25 => ?_)
    · refine g_iconst (q := 35) dX8_fixedLength_34 rfl ?_
      refine g_istore_n (q := 36) (al2 := [some (.ref (90)), some (.int (iI (i))), some (.int (iI (n))), some (.int (iI (0))), none]) rfl (by decide) rfl rfl dX8_fixedLength_35 rfl ?_
      refine g_iconst (q := 37) dX8_fixedLength_36 rfl ?_
      refine g_istore (q := 39) (al2 := [some (.ref (90)), some (.int (iI (i))), some (.int (iI (n))), some (.int (iI (0))), some (.int (iI (0)))]) (by decide) rfl rfl dX8_fixedLength_37 rfl ?_
      refine loopG (σ := Nat × Int × Int) (P := fun zz => match zz with | (b, k, sm) => G l noX mX8_fixedLength 4 0 0 (wP (fun v h' => v = .int (iI (flen (S.1 i).1 (S.1 i).2 n)) ∧ MRep h' 0 S sv ∧ FrM h h')) 0 0 39 [some (.ref (90)), some (.int (iI (i))), some (.int (iI (n))), some (.int (iI (sm))), some (.int (iI (k)))] [] NN hh1) (I := fun zz => match zz with | (b, k, sm) => b ≤ 64 ∧ b ≤ k ∧ k ≤ 64 * b ∧ sm + flF (S.1 i).1 (S.1 i).2 n (64 - b) k = flen (S.1 i).1 (S.1 i).2 n) (fun zz => match zz with | (b, k, sm) => 64 - b) ?_ (0, 0, 0) ⟨by omega, by omega, by omega, Int.zero_add _⟩
      rintro ⟨b, k, sm⟩ hI ih
      obtain ⟨b1, b2, b3, b4⟩ := hI
      refine g_iload (q := 41) rfl dX8_fixedLength_39 rfl ?_
      refine g_aload_n (q := 42) rfl rfl dX8_fixedLength_41 rfl ?_
      refine g_get (q := 45) fX8_7r (by decide) fc2 rfl dX8_fixedLength_42 rfl ?_
      refine g_iload_n (q := 46) rfl rfl dX8_fixedLength_45 rfl ?_
      refine g_iaload (q := 47) (by decide) fc3 (by omega) (by omega) (by decide) dX8_fixedLength_46 rfl ?_
      rw [x1]
      refine g_icmp_ge (t := 95) (q := 50) ⟨by omega, by omega⟩ ⟨by omega, by omega⟩ dX8_fixedLength_47 rfl rfl (fun c47 => ?_) (fun c47 => ?_)
      · have er : sm = flen (S.1 i).1 (S.1 i).2 n := by rw [← b4, flF_z (by omega)]; omega
        rw [er]
        refine g_iload_n (q := 96) rfl rfl dX8_fixedLength_95 rfl ?_
        exact g_ireturn (fun z => NN_f z) (Nat.le_of_ble_eq_true rfl) (Nat.le_of_ble_eq_true rfl) dX8_fixedLength_96 rfl (wP_in ⟨rfl, hM0, fun j hj => fr0 j (by omega)⟩)
      · rw [show 64 - b = (64 - (b + 1)) + 1 by omega, flF_s (by omega)] at b4
        refine g_iload_n (q := 51) rfl rfl dX8_fixedLength_50 rfl ?_
        refine g_aload_n (q := 52) rfl rfl dX8_fixedLength_51 rfl ?_
        refine g_iload_n (q := 53) rfl rfl dX8_fixedLength_52 rfl ?_
        refine g_iload (q := 55) rfl dX8_fixedLength_53 rfl ?_
        refine g_iload (q := 57) rfl dX8_fixedLength_55 rfl ?_
        refine g_iload_n (q := 58) rfl rfl dX8_fixedLength_57 rfl ?_
        refine g_iadd (q := 59) dX8_fixedLength_58 rfl ?_
        refine g_aload_n (q := 60) rfl rfl dX8_fixedLength_59 rfl ?_
        refine g_get (q := 63) fX8_7r (by decide) fc2 rfl dX8_fixedLength_60 rfl ?_
        refine g_iload_n (q := 64) rfl rfl dX8_fixedLength_63 rfl ?_
        refine g_iaload (q := 65) (by decide) fc3 (by omega) (by omega) (by decide) dX8_fixedLength_64 rfl ?_
        rw [x1]
        refine g_icmp_ge (t := 75) (q := 68) ⟨by omega, by omega⟩ ⟨by omega, by omega⟩ dX8_fixedLength_65 rfl rfl (fun c65 => ?_) (fun c65 => ?_)
        · refine g_aload_n (q := 76) rfl rfl dX8_fixedLength_75 rfl ?_
          refine g_get (q := 79) fX8_7r (by decide) fc2 rfl dX8_fixedLength_76 rfl ?_
          refine g_iload_n (q := 80) rfl rfl dX8_fixedLength_79 rfl ?_
          refine g_iaload (q := 81) (by decide) fc3 (by omega) (by omega) (by decide) dX8_fixedLength_80 rfl ?_
          rw [x1]
          refine g_Vr (q := 84) (d' := 3) (i := 90) (av := [.int (iI (i)), .int (iI (k)), .int (iI ((S.1 i).1))]) (st := [.int (iI (sm))]) (v := .int (iI (psz (S.1 i).2 k ((S.1 i).1)))) kvX8_92 (t_X8_sizeOf l hh1 i (S.1 i).1 (S.1 i).2 (hM0.doc hi) k ((S.1 i).1) (by omega) (by omega) (by omega)) (by decide) fc2 rfl (Nat.le_of_ble_eq_true rfl) ⟨(Nat.le_of_ble_eq_true rfl), (Nat.le_of_ble_eq_true rfl)⟩ ⟨(Nat.le_of_ble_eq_true rfl), (Nat.le_of_ble_eq_true rfl)⟩ rfl rfl dX8_fixedLength_81 rfl ?_
          refine g_iadd (q := 85) dX8_fixedLength_84 rfl ?_
          refine g_istore_n (q := 86) (al2 := [some (.ref (90)), some (.int (iI (i))), some (.int (iI (n))), some (.int (iI (sm + (psz (S.1 i).2 k ((S.1 i).1))))), some (.int (iI (k)))]) rfl (by decide) rfl rfl dX8_fixedLength_85 rfl ?_
          refine g_iload (q := 88) rfl dX8_fixedLength_86 rfl ?_
          refine g_iload_n (q := 89) rfl rfl dX8_fixedLength_88 rfl ?_
          refine g_iadd (q := 90) dX8_fixedLength_89 rfl ?_
          refine g_istore (q := 92) (al2 := [some (.ref (90)), some (.int (iI (i))), some (.int (iI (n))), some (.int (iI (sm + (psz (S.1 i).2 k ((S.1 i).1))))), some (.int (iI (k + n)))]) (by decide) rfl rfl dX8_fixedLength_90 rfl ?_
          refine g_goto (q := 39) dX8_fixedLength_92 rfl ?_
          exact ih (b + 1, k + n, sm + psz (S.1 i).2 k ((S.1 i).1)) ⟨by show b + 1 ≤ 64; omega, by omega, by omega, by rw [if_neg (by omega)] at b4; omega⟩ (by show 64 - (b + 1) < 64 - b; omega)
        · refine g_iload (q := 70) rfl dX8_fixedLength_68 rfl ?_
          refine g_iload_n (q := 71) rfl rfl dX8_fixedLength_70 rfl ?_
          refine g_iadd (q := 72) dX8_fixedLength_71 rfl ?_
          refine g_goto (q := 81) dX8_fixedLength_72 rfl ?_
          refine g_Vr (q := 84) (d' := 3) (i := 90) (av := [.int (iI (i)), .int (iI (k)), .int (iI (k + n))]) (st := [.int (iI (sm))]) (v := .int (iI (psz (S.1 i).2 k (k + n)))) kvX8_92 (t_X8_sizeOf l hh1 i (S.1 i).1 (S.1 i).2 (hM0.doc hi) k (k + n) (by omega) (by omega) (by omega)) (by decide) fc2 rfl (Nat.le_of_ble_eq_true rfl) ⟨(Nat.le_of_ble_eq_true rfl), (Nat.le_of_ble_eq_true rfl)⟩ ⟨(Nat.le_of_ble_eq_true rfl), (Nat.le_of_ble_eq_true rfl)⟩ rfl rfl dX8_fixedLength_81 rfl ?_
          refine g_iadd (q := 85) dX8_fixedLength_84 rfl ?_
          refine g_istore_n (q := 86) (al2 := [some (.ref (90)), some (.int (iI (i))), some (.int (iI (n))), some (.int (iI (sm + (psz (S.1 i).2 k (k + n))))), some (.int (iI (k)))]) rfl (by decide) rfl rfl dX8_fixedLength_85 rfl ?_
          refine g_iload (q := 88) rfl dX8_fixedLength_86 rfl ?_
          refine g_iload_n (q := 89) rfl rfl dX8_fixedLength_88 rfl ?_
          refine g_iadd (q := 90) dX8_fixedLength_89 rfl ?_
          refine g_istore (q := 92) (al2 := [some (.ref (90)), some (.int (iI (i))), some (.int (iI (n))), some (.int (iI (sm + (psz (S.1 i).2 k (k + n))))), some (.int (iI (k + n)))]) (by decide) rfl rfl dX8_fixedLength_90 rfl ?_
          refine g_goto (q := 39) dX8_fixedLength_92 rfl ?_
          exact ih (b + 1, k + n, sm + psz (S.1 i).2 k (k + n)) ⟨by show b + 1 ≤ 64; omega, by omega, by omega, by rw [if_pos (by omega)] at b4; omega⟩ (by show 64 - (b + 1) < 64 - b; omega)
    · omega
  · omega
set_option maxRecDepth 4000 in
theorem f_X8_fixedLength (l : Launch) (h : EHp) (th : Int) (S : ASt) (sv : List ASt) (hM : MRep h th S sv) (i : Int) (hi : IR i) (h0 : i < 0 ∨ 4 ≤ i) (n : Int) : CT l mX8_fixedLength 4 0 0 [.ref (90), .int (iI (i)), .int (iI (n))] NN h (wP (fun v h' => v = .int (iI 0) ∧ MRep h' 1 S sv ∧ FrM h h')) := by
  obtain ⟨w, pst, bg, mn, lz, hA, ⟨m1, m2, m3, m4, m5⟩, ⟨⟨cs, s1⟩, ⟨ct, s2⟩, ⟨nx, s3⟩, ⟨fd, s4⟩, ⟨od, s5⟩⟩, hW, hP, hY⟩ := id hM
  refine CT.of (by decide) (Nat.le_of_ble_eq_true rfl) ?_
  refine g_al (al2 := [some (.ref (90)), some (.int (iI (i))), some (.int (iI (n))), none, none]) rfl ?_
  refine g_aload_n (q := 1) rfl rfl dX8_fixedLength_0 rfl ?_
  refine g_iconst (q := 2) dX8_fixedLength_1 rfl ?_
  refine g_put (q := 5) fX8_41 (by decide) hA (Nat.le_of_ble_eq_true rfl) (fun _ _ => rfl) (fun _ _ => rfl) dX8_fixedLength_2 rfl ?_
  refine hp_in (fun hh1 ehh1 => ?_)
  have fc2 : hh1 90 = cO 7 [.int (iI (0)), .ref (91), .ref (92), .int (iI (sv.length)), .ref (93), .ref (94), .ref (95), .ref (96), .ref (97), .ref (98), .ref (99), .ref (100)] := by rw [ehh1]; exact ueh_s
  have fc3 : hh1 91 = cI 272 w := by rw [ehh1, ueh_n (by decide)]; exact m1
  refine g_iload_n (q := 6) rfl rfl dX8_fixedLength_5 rfl ?_
  have hM0 : MRep hh1 0 S sv := hM.thr fc2 (fun j hj => by rw [ehh1, ueh_n hj])
  have fr0 : ∀ j, j ≠ 90 → hh1 j = h j := fun j hj => by rw [ehh1, ueh_n hj]
  refine g_Sr (q := 9) (d' := 1) (av := [.int (iI (i))]) (st := []) (v := .int (iI (0))) ksX8_60 (t_X8_isList0 l hh1 i hi (by omega)) rfl (Nat.le_of_ble_eq_true rfl) ⟨(Nat.le_of_ble_eq_true rfl), (Nat.le_of_ble_eq_true rfl)⟩ ⟨(Nat.le_of_ble_eq_true rfl), (Nat.le_of_ble_eq_true rfl)⟩ rfl rfl dX8_fixedLength_6 rfl ?_
  refine g_if_ne (t := 18) (q := 12) ⟨by omega, by omega⟩ dX8_fixedLength_9 rfl rfl (fun c9 => ?_) (fun c9 => ?_)
  · omega
  · refine g_aload_n (q := 13) rfl rfl dX8_fixedLength_12 rfl ?_
    refine g_iconst (q := 14) dX8_fixedLength_13 rfl ?_
    refine g_Vw (q := 17) (d' := 0) (i := 90) (av := [.int (iI (1))]) (st := []) kvX8_64 (t_X8_fails l hh1 0 S sv hM0 1) (by decide) fc2 rfl (Nat.le_of_ble_eq_true rfl) ⟨(Nat.le_of_ble_eq_true rfl), (Nat.le_of_ble_eq_true rfl)⟩ ⟨(Nat.le_of_ble_eq_true rfl), (Nat.le_of_ble_eq_true rfl)⟩ rfl rfl dX8_fixedLength_14 rfl (fun v hz hp => ?_)
    obtain ⟨rfl, p1, p2⟩ := hp
    exact g_ireturn (fun z => NN_f z) (Nat.le_of_ble_eq_true rfl) (Nat.le_of_ble_eq_true rfl) dX8_fixedLength_17 rfl (wP_in ⟨rfl, p1, fun j hj => (p2 j (by omega)).trans (fr0 j (by omega))⟩)
set_option maxRecDepth 4000 in
theorem f2_X8_fixedLength (l : Launch) (h : EHp) (th : Int) (S : ASt) (sv : List ASt) (hM : MRep h th S sv) (i : Nat) (hi : i < 4) (n : Int) (hj : IR n) (hx : n < 1 ∨ 64 < n) : CT l mX8_fixedLength 4 0 0 [.ref (90), .int (iI (i)), .int (iI (n))] NN h (wP (fun v h' => v = .int (iI 0) ∧ MRep h' 2 S sv ∧ FrM h h')) := by
  obtain ⟨w, pst, bg, mn, lz, hA, ⟨m1, m2, m3, m4, m5⟩, ⟨⟨cs, s1⟩, ⟨ct, s2⟩, ⟨nx, s3⟩, ⟨fd, s4⟩, ⟨od, s5⟩⟩, hW, hP, hY⟩ := id hM
  refine CT.of (by decide) (Nat.le_of_ble_eq_true rfl) ?_
  refine g_al (al2 := [some (.ref (90)), some (.int (iI (i))), some (.int (iI (n))), none, none]) rfl ?_
  refine g_aload_n (q := 1) rfl rfl dX8_fixedLength_0 rfl ?_
  refine g_iconst (q := 2) dX8_fixedLength_1 rfl ?_
  refine g_put (q := 5) fX8_41 (by decide) hA (Nat.le_of_ble_eq_true rfl) (fun _ _ => rfl) (fun _ _ => rfl) dX8_fixedLength_2 rfl ?_
  refine hp_in (fun hh1 ehh1 => ?_)
  have fc2 : hh1 90 = cO 7 [.int (iI (0)), .ref (91), .ref (92), .int (iI (sv.length)), .ref (93), .ref (94), .ref (95), .ref (96), .ref (97), .ref (98), .ref (99), .ref (100)] := by rw [ehh1]; exact ueh_s
  have fc3 : hh1 91 = cI 272 w := by rw [ehh1, ueh_n (by decide)]; exact m1
  refine g_iload_n (q := 6) rfl rfl dX8_fixedLength_5 rfl ?_
  have hM0 : MRep hh1 0 S sv := hM.thr fc2 (fun j hj => by rw [ehh1, ueh_n hj])
  have fr0 : ∀ j, j ≠ 90 → hh1 j = h j := fun j hj => by rw [ehh1, ueh_n hj]
  refine g_Sr (q := 9) (d' := 1) (av := [.int (iI (i))]) (st := []) (v := .int (iI (1))) ksX8_60 (t_X8_isList1 l hh1 i (by omega) (by omega)) rfl (Nat.le_of_ble_eq_true rfl) ⟨(Nat.le_of_ble_eq_true rfl), (Nat.le_of_ble_eq_true rfl)⟩ ⟨(Nat.le_of_ble_eq_true rfl), (Nat.le_of_ble_eq_true rfl)⟩ rfl rfl dX8_fixedLength_6 rfl ?_
  refine g_if_ne (t := 18) (q := 12) ⟨by omega, by omega⟩ dX8_fixedLength_9 rfl rfl (fun c9 => ?_) (fun c9 => ?_)
  · refine g_iload_n (q := 19) rfl rfl dX8_fixedLength_18 rfl ?_
    refine g_iconst (q := 20) dX8_fixedLength_19 rfl ?_
    refine g_bipush (q := 22) (by decide) dX8_fixedLength_20 rfl ?_
    refine g_Sr (q := 25) (d' := 0) (av := [.int (iI (n)), .int (iI (1)), .int (iI (64))]) (st := []) (v := .int (iI (0))) ksX8_45 (t_X8_in0 l hh1 (n) (1) (64) hj ⟨by omega, by omega⟩ ⟨by omega, by omega⟩ (by omega)) rfl (Nat.le_of_ble_eq_true rfl) ⟨(Nat.le_of_ble_eq_true rfl), (Nat.le_of_ble_eq_true rfl)⟩ ⟨(Nat.le_of_ble_eq_true rfl), (Nat.le_of_ble_eq_true rfl)⟩ rfl rfl dX8_fixedLength_22 rfl ?_
    refine g_if_ne (t := 34) (q := 28) ⟨by omega, by omega⟩ dX8_fixedLength_25 rfl rfl (fun c25 => ?_) (fun c25 => ?_)
    · omega
    · refine g_aload_n (q := 29) rfl rfl dX8_fixedLength_28 rfl ?_
      refine g_iconst (q := 30) dX8_fixedLength_29 rfl ?_
      refine g_Vw (q := 33) (d' := 0) (i := 90) (av := [.int (iI (2))]) (st := []) kvX8_64 (t_X8_fails l hh1 0 S sv hM0 2) (by decide) fc2 rfl (Nat.le_of_ble_eq_true rfl) ⟨(Nat.le_of_ble_eq_true rfl), (Nat.le_of_ble_eq_true rfl)⟩ ⟨(Nat.le_of_ble_eq_true rfl), (Nat.le_of_ble_eq_true rfl)⟩ rfl rfl dX8_fixedLength_30 rfl (fun v hz hp => ?_)
      obtain ⟨rfl, p1, p2⟩ := hp
      exact g_ireturn (fun z => NN_f z) (Nat.le_of_ble_eq_true rfl) (Nat.le_of_ble_eq_true rfl) dX8_fixedLength_33 rfl (wP_in ⟨rfl, p1, fun j hj => (p2 j (by omega)).trans (fr0 j (by omega))⟩)
  · omega
set_option maxRecDepth 4000 in
theorem t_X8_bitsPerDocument (l : Launch) (h : EHp) (th : Int) (S : ASt) (sv : List ASt) (hM : MRep h th S sv) (i : Nat) (hi : i < 4) : CT l mX8_bitsPerDocument 7 0 0 [.ref (90), .int (iI (i))] NN h (wP (fun v h' => v = .double (if (S.1 i).1 = 0 then FP.dconst0 else bpd (szP (S.1 i).1 (S.1 i).2 (pn (S.1 i).1 (S.1 i).2)) (S.1 i).1) ∧ MRep h' 0 S sv ∧ FrM h h')) := by
  obtain ⟨w, pst, bg, mn, lz, hA, ⟨m1, m2, m3, m4, m5⟩, ⟨⟨cs, s1⟩, ⟨ct, s2⟩, ⟨nx, s3⟩, ⟨fd, s4⟩, ⟨od, s5⟩⟩, hW, hP, hY⟩ := id hM
  obtain ⟨x1, x2, x3⟩ := hW.1 i hi
  obtain ⟨o1, o2, o3, o4⟩ := id x2
  refine CT.of (by decide) (Nat.le_of_ble_eq_true rfl) ?_
  refine g_al (al2 := [some (.ref (90)), some (.int (iI (i)))]) rfl ?_
  refine g_aload_n (q := 1) rfl rfl dX8_bitsPerDocument_0 rfl ?_
  refine g_iconst (q := 2) dX8_bitsPerDocument_1 rfl ?_
  refine g_put (q := 5) fX8_41 (by decide) hA (Nat.le_of_ble_eq_true rfl) (fun _ _ => rfl) (fun _ _ => rfl) dX8_bitsPerDocument_2 rfl ?_
  refine hp_in (fun hh1 ehh1 => ?_)
  have fc2 : hh1 90 = cO 7 [.int (iI (0)), .ref (91), .ref (92), .int (iI (sv.length)), .ref (93), .ref (94), .ref (95), .ref (96), .ref (97), .ref (98), .ref (99), .ref (100)] := by rw [ehh1]; exact ueh_s
  have fc3 : hh1 91 = cI 272 w := by rw [ehh1, ueh_n (by decide)]; exact m1
  refine g_iload_n (q := 6) rfl rfl dX8_bitsPerDocument_5 rfl ?_
  have hM0 : MRep hh1 0 S sv := hM.thr fc2 (fun j hj => by rw [ehh1, ueh_n hj])
  have fr0 : ∀ j, j ≠ 90 → hh1 j = h j := fun j hj => by rw [ehh1, ueh_n hj]
  refine g_Sr (q := 9) (d' := 1) (av := [.int (iI (i))]) (st := []) (v := .int (iI (1))) ksX8_60 (t_X8_isList1 l hh1 i (by omega) (by omega)) rfl (Nat.le_of_ble_eq_true rfl) ⟨(Nat.le_of_ble_eq_true rfl), (Nat.le_of_ble_eq_true rfl)⟩ ⟨(Nat.le_of_ble_eq_true rfl), (Nat.le_of_ble_eq_true rfl)⟩ rfl rfl dX8_bitsPerDocument_6 rfl ?_
  refine g_if_ne (t := 19) (q := 12) ⟨by omega, by omega⟩ dX8_bitsPerDocument_9 rfl rfl (fun c9 => ?_) (fun c9 => ?_)
  · refine g_aload_n (q := 20) rfl rfl dX8_bitsPerDocument_19 rfl ?_
    refine g_get (q := 23) fX8_7r (by decide) fc2 rfl dX8_bitsPerDocument_20 rfl ?_
    refine g_iload_n (q := 24) rfl rfl dX8_bitsPerDocument_23 rfl ?_
    refine g_iaload (q := 25) (by decide) fc3 (by omega) (by omega) (by decide) dX8_bitsPerDocument_24 rfl ?_
    rw [x1]
    refine g_if_ne (t := 32) (q := 28) ⟨by omega, by omega⟩ dX8_bitsPerDocument_25 rfl rfl (fun c25 => ?_) (fun c25 => ?_)
    · refine g_aload_n (q := 33) rfl rfl dX8_bitsPerDocument_32 rfl ?_
      refine g_iload_n (q := 34) rfl rfl dX8_bitsPerDocument_33 rfl ?_
      refine g_Vw (q := 37) (d' := 6) (i := 90) (av := [.int (iI (i))]) (st := []) kvX8_123 (t_X8_bitsOf l hh1 0 S sv hM0 i hi) (by decide) fc2 rfl (Nat.le_of_ble_eq_true rfl) ⟨(Nat.le_of_ble_eq_true rfl), (Nat.le_of_ble_eq_true rfl)⟩ ⟨(Nat.le_of_ble_eq_true rfl), (Nat.le_of_ble_eq_true rfl)⟩ rfl rfl dX8_bitsPerDocument_34 rfl (fun v h1 hp => ?_)
      obtain ⟨rfl, l1, l2, l3⟩ := hp
      have hsz := szP_le l2.LOk (pn_ok (f := (S.1 i).2) o1).1 (Nat.le_refl (pn (S.1 i).1 (S.1 i).2))
      obtain ⟨w1, pst1, bg1, mn1, lz1, A1, ⟨B1, -⟩, -, W1, -⟩ := id l1
      have y1 := (W1.1 i hi).1
      refine g_i2d (q := 38) dX8_bitsPerDocument_37 rfl ?_
      refine g_aload_n (q := 39) rfl rfl dX8_bitsPerDocument_38 rfl ?_
      refine g_get (q := 42) fX8_7r (by decide) A1 rfl dX8_bitsPerDocument_39 rfl ?_
      refine g_iload_n (q := 43) rfl rfl dX8_bitsPerDocument_42 rfl ?_
      refine g_iaload (q := 44) (by decide) B1 (by omega) (by omega) (by decide) dX8_bitsPerDocument_43 rfl ?_
      rw [y1]
      refine g_i2d (q := 45) dX8_bitsPerDocument_44 rfl ?_
      refine g_ddiv (q := 46) (bpd_ok hsz.1 hsz.2 (by omega) (by omega)) dX8_bitsPerDocument_45 rfl ?_
      exact g_dreturn (fun z => NN_f z) (Nat.le_of_ble_eq_true rfl) (Nat.le_of_ble_eq_true rfl) dX8_bitsPerDocument_46 rfl (wP_in ⟨by rw [if_neg (by omega)]; rfl, l1, fun j hj => (l3 j (by omega)).trans (fr0 j (by omega))⟩)
    · refine g_dconst0 (q := 29) dX8_bitsPerDocument_28 rfl ?_
      refine g_goto (q := 46) dX8_bitsPerDocument_29 rfl ?_
      exact g_dreturn (fun z => NN_f z) (Nat.le_of_ble_eq_true rfl) (Nat.le_of_ble_eq_true rfl) dX8_bitsPerDocument_46 rfl (wP_in ⟨by rw [if_pos (by omega)], hM0, fun j hj => fr0 j (by omega)⟩)
  · omega
set_option maxRecDepth 4000 in
theorem f_X8_bitsPerDocument (l : Launch) (h : EHp) (th : Int) (S : ASt) (sv : List ASt) (hM : MRep h th S sv) (i : Int) (hi : IR i) (h0 : i < 0 ∨ 4 ≤ i) : CT l mX8_bitsPerDocument 7 0 0 [.ref (90), .int (iI (i))] NN h (wP (fun v h' => v = .double (FP.i2d (iI 0)) ∧ MRep h' 1 S sv ∧ FrM h h')) := by
  obtain ⟨w, pst, bg, mn, lz, hA, ⟨m1, m2, m3, m4, m5⟩, ⟨⟨cs, s1⟩, ⟨ct, s2⟩, ⟨nx, s3⟩, ⟨fd, s4⟩, ⟨od, s5⟩⟩, hW, hP, hY⟩ := id hM
  refine CT.of (by decide) (Nat.le_of_ble_eq_true rfl) ?_
  refine g_al (al2 := [some (.ref (90)), some (.int (iI (i)))]) rfl ?_
  refine g_aload_n (q := 1) rfl rfl dX8_bitsPerDocument_0 rfl ?_
  refine g_iconst (q := 2) dX8_bitsPerDocument_1 rfl ?_
  refine g_put (q := 5) fX8_41 (by decide) hA (Nat.le_of_ble_eq_true rfl) (fun _ _ => rfl) (fun _ _ => rfl) dX8_bitsPerDocument_2 rfl ?_
  refine hp_in (fun hh1 ehh1 => ?_)
  have fc2 : hh1 90 = cO 7 [.int (iI (0)), .ref (91), .ref (92), .int (iI (sv.length)), .ref (93), .ref (94), .ref (95), .ref (96), .ref (97), .ref (98), .ref (99), .ref (100)] := by rw [ehh1]; exact ueh_s
  have fc3 : hh1 91 = cI 272 w := by rw [ehh1, ueh_n (by decide)]; exact m1
  refine g_iload_n (q := 6) rfl rfl dX8_bitsPerDocument_5 rfl ?_
  have hM0 : MRep hh1 0 S sv := hM.thr fc2 (fun j hj => by rw [ehh1, ueh_n hj])
  have fr0 : ∀ j, j ≠ 90 → hh1 j = h j := fun j hj => by rw [ehh1, ueh_n hj]
  refine g_Sr (q := 9) (d' := 1) (av := [.int (iI (i))]) (st := []) (v := .int (iI (0))) ksX8_60 (t_X8_isList0 l hh1 i hi (by omega)) rfl (Nat.le_of_ble_eq_true rfl) ⟨(Nat.le_of_ble_eq_true rfl), (Nat.le_of_ble_eq_true rfl)⟩ ⟨(Nat.le_of_ble_eq_true rfl), (Nat.le_of_ble_eq_true rfl)⟩ rfl rfl dX8_bitsPerDocument_6 rfl ?_
  refine g_if_ne (t := 19) (q := 12) ⟨by omega, by omega⟩ dX8_bitsPerDocument_9 rfl rfl (fun c9 => ?_) (fun c9 => ?_)
  · omega
  · refine g_aload_n (q := 13) rfl rfl dX8_bitsPerDocument_12 rfl ?_
    refine g_iconst (q := 14) dX8_bitsPerDocument_13 rfl ?_
    refine g_Vw (q := 17) (d' := 0) (i := 90) (av := [.int (iI (1))]) (st := []) kvX8_64 (t_X8_fails l hh1 0 S sv hM0 1) (by decide) fc2 rfl (Nat.le_of_ble_eq_true rfl) ⟨(Nat.le_of_ble_eq_true rfl), (Nat.le_of_ble_eq_true rfl)⟩ ⟨(Nat.le_of_ble_eq_true rfl), (Nat.le_of_ble_eq_true rfl)⟩ rfl rfl dX8_bitsPerDocument_14 rfl (fun v hz hp => ?_)
    obtain ⟨rfl, p1, p2⟩ := hp
    refine g_i2d (q := 18) dX8_bitsPerDocument_17 rfl ?_
    exact g_dreturn (fun z => NN_f z) (Nat.le_of_ble_eq_true rfl) (Nat.le_of_ble_eq_true rfl) dX8_bitsPerDocument_18 rfl (wP_in ⟨rfl, p1, fun j hj => (p2 j (by omega)).trans (fr0 j (by omega))⟩)
set_option maxRecDepth 4000 in
theorem t_X8_nextAtLeast (l : Launch) (h : EHp) (th : Int) (S : ASt) (sv : List ASt) (hM : MRep h th S sv) (i : Nat) (hi : i < 4) (x : Int) (y0 : 0 ≤ x) (y1 : x ≤ 511) : CT l mX8_nextAtLeast 8 0 0 [.ref (90), .int (iI (i)), .int (iI (x))] NN h (wP (fun v h' => v = .int (iI ((qry S i x).1)) ∧ MRep h' 0 (qry S i x).2 (push4 S sv) ∧ FrM h h')) := by
  obtain ⟨w, pst, bg, mn, lz, hA, ⟨m1, m2, m3, m4, m5⟩, ⟨⟨cs, s1⟩, ⟨ct, s2⟩, ⟨nx, s3⟩, ⟨fd, s4⟩, ⟨od, s5⟩⟩, hW, hP, hY⟩ := id hM
  refine CT.of (by decide) (Nat.le_of_ble_eq_true rfl) ?_
  refine g_al (al2 := [some (.ref (90)), some (.int (iI (i))), some (.int (iI (x)))]) rfl ?_
  refine g_aload_n (q := 1) rfl rfl dX8_nextAtLeast_0 rfl ?_
  refine g_iconst (q := 2) dX8_nextAtLeast_1 rfl ?_
  refine g_put (q := 5) fX8_41 (by decide) hA (Nat.le_of_ble_eq_true rfl) (fun _ _ => rfl) (fun _ _ => rfl) dX8_nextAtLeast_2 rfl ?_
  refine hp_in (fun hh1 ehh1 => ?_)
  have fc2 : hh1 90 = cO 7 [.int (iI (0)), .ref (91), .ref (92), .int (iI (sv.length)), .ref (93), .ref (94), .ref (95), .ref (96), .ref (97), .ref (98), .ref (99), .ref (100)] := by rw [ehh1]; exact ueh_s
  have fc3 : hh1 91 = cI 272 w := by rw [ehh1, ueh_n (by decide)]; exact m1
  refine g_iload_n (q := 6) rfl rfl dX8_nextAtLeast_5 rfl ?_
  have hM0 : MRep hh1 0 S sv := hM.thr fc2 (fun j hj => by rw [ehh1, ueh_n hj])
  have fr0 : ∀ j, j ≠ 90 → hh1 j = h j := fun j hj => by rw [ehh1, ueh_n hj]
  refine g_Sr (q := 9) (d' := 1) (av := [.int (iI (i))]) (st := []) (v := .int (iI (1))) ksX8_60 (t_X8_isList1 l hh1 i (by omega) (by omega)) rfl (Nat.le_of_ble_eq_true rfl) ⟨(Nat.le_of_ble_eq_true rfl), (Nat.le_of_ble_eq_true rfl)⟩ ⟨(Nat.le_of_ble_eq_true rfl), (Nat.le_of_ble_eq_true rfl)⟩ rfl rfl dX8_nextAtLeast_6 rfl ?_
  refine g_if_ne (t := 18) (q := 12) ⟨by omega, by omega⟩ dX8_nextAtLeast_9 rfl rfl (fun c9 => ?_) (fun c9 => ?_)
  · refine g_iload_n (q := 19) rfl rfl dX8_nextAtLeast_18 rfl ?_
    refine g_iconst (q := 20) dX8_nextAtLeast_19 rfl ?_
    refine g_sipush (q := 23) (by decide) dX8_nextAtLeast_20 rfl ?_
    refine g_Sr (q := 26) (d' := 0) (av := [.int (iI (x)), .int (iI (0)), .int (iI (511))]) (st := []) (v := .int (iI (1))) ksX8_45 (t_X8_in1 l hh1 (x) (0) (511) ⟨by omega, by omega⟩ ⟨by omega, by omega⟩ ⟨by omega, by omega⟩ (by omega) (by omega)) rfl (Nat.le_of_ble_eq_true rfl) ⟨(Nat.le_of_ble_eq_true rfl), (Nat.le_of_ble_eq_true rfl)⟩ ⟨(Nat.le_of_ble_eq_true rfl), (Nat.le_of_ble_eq_true rfl)⟩ rfl rfl dX8_nextAtLeast_23 rfl ?_
    refine g_if_ne (t := 35) (q := 29) ⟨by omega, by omega⟩ dX8_nextAtLeast_26 rfl rfl (fun c26 => ?_) (fun c26 => ?_)
    · refine g_aload_n (q := 36) rfl rfl dX8_nextAtLeast_35 rfl ?_
      refine g_Vv (q := 39) (d' := 0) (i := 90) (av := []) (st := []) kvX8_72 (t_X8_save l hh1 0 S sv hM0) (by decide) fc2 rfl (Nat.le_of_ble_eq_true rfl) ⟨(Nat.le_of_ble_eq_true rfl), (Nat.le_of_ble_eq_true rfl)⟩ ⟨(Nat.le_of_ble_eq_true rfl), (Nat.le_of_ble_eq_true rfl)⟩ rfl rfl dX8_nextAtLeast_36 rfl (fun h1 hp => ?_)
      obtain ⟨hM1, fr1⟩ := hp
      obtain ⟨w1, pst1, bg1, mn1, lz1, A1, ⟨B1, -⟩, -, W1, -⟩ := id hM1
      refine g_aload_n (q := 40) rfl rfl dX8_nextAtLeast_39 rfl ?_
      refine g_iload_n (q := 41) rfl rfl dX8_nextAtLeast_40 rfl ?_
      refine g_iload_n (q := 42) rfl rfl dX8_nextAtLeast_41 rfl ?_
      refine g_Vw (q := 45) (d' := 7) (i := 90) (av := [.int (iI (i)), .int (iI (x))]) (st := []) kvX8_142 (t_X8_asks l h1 0 S (push4 S sv) hM1 i hi x y0 y1) (by decide) A1 rfl (Nat.le_of_ble_eq_true rfl) ⟨(Nat.le_of_ble_eq_true rfl), (Nat.le_of_ble_eq_true rfl)⟩ ⟨(Nat.le_of_ble_eq_true rfl), (Nat.le_of_ble_eq_true rfl)⟩ rfl rfl dX8_nextAtLeast_42 rfl (fun v h2 hp => ?_)
      obtain ⟨rfl, hM2, fr2⟩ := hp
      exact g_ireturn (fun z => NN_f z) (Nat.le_of_ble_eq_true rfl) (Nat.le_of_ble_eq_true rfl) dX8_nextAtLeast_45 rfl (wP_in ⟨rfl, hM2, fun j hj => (fr2 j (by omega) (by omega)).trans ((fr1 j (by omega) (by omega)).trans (fr0 j (by omega)))⟩)
    · omega
  · omega
set_option maxRecDepth 4000 in
theorem f_X8_nextAtLeast (l : Launch) (h : EHp) (th : Int) (S : ASt) (sv : List ASt) (hM : MRep h th S sv) (i : Int) (hi : IR i) (h0 : i < 0 ∨ 4 ≤ i) (x : Int) : CT l mX8_nextAtLeast 8 0 0 [.ref (90), .int (iI (i)), .int (iI (x))] NN h (wP (fun v h' => v = .int (iI 0) ∧ MRep h' 1 S sv ∧ FrM h h')) := by
  obtain ⟨w, pst, bg, mn, lz, hA, ⟨m1, m2, m3, m4, m5⟩, ⟨⟨cs, s1⟩, ⟨ct, s2⟩, ⟨nx, s3⟩, ⟨fd, s4⟩, ⟨od, s5⟩⟩, hW, hP, hY⟩ := id hM
  refine CT.of (by decide) (Nat.le_of_ble_eq_true rfl) ?_
  refine g_al (al2 := [some (.ref (90)), some (.int (iI (i))), some (.int (iI (x)))]) rfl ?_
  refine g_aload_n (q := 1) rfl rfl dX8_nextAtLeast_0 rfl ?_
  refine g_iconst (q := 2) dX8_nextAtLeast_1 rfl ?_
  refine g_put (q := 5) fX8_41 (by decide) hA (Nat.le_of_ble_eq_true rfl) (fun _ _ => rfl) (fun _ _ => rfl) dX8_nextAtLeast_2 rfl ?_
  refine hp_in (fun hh1 ehh1 => ?_)
  have fc2 : hh1 90 = cO 7 [.int (iI (0)), .ref (91), .ref (92), .int (iI (sv.length)), .ref (93), .ref (94), .ref (95), .ref (96), .ref (97), .ref (98), .ref (99), .ref (100)] := by rw [ehh1]; exact ueh_s
  have fc3 : hh1 91 = cI 272 w := by rw [ehh1, ueh_n (by decide)]; exact m1
  refine g_iload_n (q := 6) rfl rfl dX8_nextAtLeast_5 rfl ?_
  have hM0 : MRep hh1 0 S sv := hM.thr fc2 (fun j hj => by rw [ehh1, ueh_n hj])
  have fr0 : ∀ j, j ≠ 90 → hh1 j = h j := fun j hj => by rw [ehh1, ueh_n hj]
  refine g_Sr (q := 9) (d' := 1) (av := [.int (iI (i))]) (st := []) (v := .int (iI (0))) ksX8_60 (t_X8_isList0 l hh1 i hi (by omega)) rfl (Nat.le_of_ble_eq_true rfl) ⟨(Nat.le_of_ble_eq_true rfl), (Nat.le_of_ble_eq_true rfl)⟩ ⟨(Nat.le_of_ble_eq_true rfl), (Nat.le_of_ble_eq_true rfl)⟩ rfl rfl dX8_nextAtLeast_6 rfl ?_
  refine g_if_ne (t := 18) (q := 12) ⟨by omega, by omega⟩ dX8_nextAtLeast_9 rfl rfl (fun c9 => ?_) (fun c9 => ?_)
  · omega
  · refine g_aload_n (q := 13) rfl rfl dX8_nextAtLeast_12 rfl ?_
    refine g_iconst (q := 14) dX8_nextAtLeast_13 rfl ?_
    refine g_Vw (q := 17) (d' := 0) (i := 90) (av := [.int (iI (1))]) (st := []) kvX8_64 (t_X8_fails l hh1 0 S sv hM0 1) (by decide) fc2 rfl (Nat.le_of_ble_eq_true rfl) ⟨(Nat.le_of_ble_eq_true rfl), (Nat.le_of_ble_eq_true rfl)⟩ ⟨(Nat.le_of_ble_eq_true rfl), (Nat.le_of_ble_eq_true rfl)⟩ rfl rfl dX8_nextAtLeast_14 rfl (fun v hz hp => ?_)
    obtain ⟨rfl, p1, p2⟩ := hp
    exact g_ireturn (fun z => NN_f z) (Nat.le_of_ble_eq_true rfl) (Nat.le_of_ble_eq_true rfl) dX8_nextAtLeast_17 rfl (wP_in ⟨rfl, p1, fun j hj => (p2 j (by omega)).trans (fr0 j (by omega))⟩)
set_option maxRecDepth 4000 in
theorem f2_X8_nextAtLeast (l : Launch) (h : EHp) (th : Int) (S : ASt) (sv : List ASt) (hM : MRep h th S sv) (i : Nat) (hi : i < 4) (x : Int) (hj : IR x) (hx : x < 0 ∨ 511 < x) : CT l mX8_nextAtLeast 8 0 0 [.ref (90), .int (iI (i)), .int (iI (x))] NN h (wP (fun v h' => v = .int (iI 0) ∧ MRep h' 2 S sv ∧ FrM h h')) := by
  obtain ⟨w, pst, bg, mn, lz, hA, ⟨m1, m2, m3, m4, m5⟩, ⟨⟨cs, s1⟩, ⟨ct, s2⟩, ⟨nx, s3⟩, ⟨fd, s4⟩, ⟨od, s5⟩⟩, hW, hP, hY⟩ := id hM
  refine CT.of (by decide) (Nat.le_of_ble_eq_true rfl) ?_
  refine g_al (al2 := [some (.ref (90)), some (.int (iI (i))), some (.int (iI (x)))]) rfl ?_
  refine g_aload_n (q := 1) rfl rfl dX8_nextAtLeast_0 rfl ?_
  refine g_iconst (q := 2) dX8_nextAtLeast_1 rfl ?_
  refine g_put (q := 5) fX8_41 (by decide) hA (Nat.le_of_ble_eq_true rfl) (fun _ _ => rfl) (fun _ _ => rfl) dX8_nextAtLeast_2 rfl ?_
  refine hp_in (fun hh1 ehh1 => ?_)
  have fc2 : hh1 90 = cO 7 [.int (iI (0)), .ref (91), .ref (92), .int (iI (sv.length)), .ref (93), .ref (94), .ref (95), .ref (96), .ref (97), .ref (98), .ref (99), .ref (100)] := by rw [ehh1]; exact ueh_s
  have fc3 : hh1 91 = cI 272 w := by rw [ehh1, ueh_n (by decide)]; exact m1
  refine g_iload_n (q := 6) rfl rfl dX8_nextAtLeast_5 rfl ?_
  have hM0 : MRep hh1 0 S sv := hM.thr fc2 (fun j hj => by rw [ehh1, ueh_n hj])
  have fr0 : ∀ j, j ≠ 90 → hh1 j = h j := fun j hj => by rw [ehh1, ueh_n hj]
  refine g_Sr (q := 9) (d' := 1) (av := [.int (iI (i))]) (st := []) (v := .int (iI (1))) ksX8_60 (t_X8_isList1 l hh1 i (by omega) (by omega)) rfl (Nat.le_of_ble_eq_true rfl) ⟨(Nat.le_of_ble_eq_true rfl), (Nat.le_of_ble_eq_true rfl)⟩ ⟨(Nat.le_of_ble_eq_true rfl), (Nat.le_of_ble_eq_true rfl)⟩ rfl rfl dX8_nextAtLeast_6 rfl ?_
  refine g_if_ne (t := 18) (q := 12) ⟨by omega, by omega⟩ dX8_nextAtLeast_9 rfl rfl (fun c9 => ?_) (fun c9 => ?_)
  · refine g_iload_n (q := 19) rfl rfl dX8_nextAtLeast_18 rfl ?_
    refine g_iconst (q := 20) dX8_nextAtLeast_19 rfl ?_
    refine g_sipush (q := 23) (by decide) dX8_nextAtLeast_20 rfl ?_
    refine g_Sr (q := 26) (d' := 0) (av := [.int (iI (x)), .int (iI (0)), .int (iI (511))]) (st := []) (v := .int (iI (0))) ksX8_45 (t_X8_in0 l hh1 (x) (0) (511) hj ⟨by omega, by omega⟩ ⟨by omega, by omega⟩ (by omega)) rfl (Nat.le_of_ble_eq_true rfl) ⟨(Nat.le_of_ble_eq_true rfl), (Nat.le_of_ble_eq_true rfl)⟩ ⟨(Nat.le_of_ble_eq_true rfl), (Nat.le_of_ble_eq_true rfl)⟩ rfl rfl dX8_nextAtLeast_23 rfl ?_
    refine g_if_ne (t := 35) (q := 29) ⟨by omega, by omega⟩ dX8_nextAtLeast_26 rfl rfl (fun c26 => ?_) (fun c26 => ?_)
    · omega
    · refine g_aload_n (q := 30) rfl rfl dX8_nextAtLeast_29 rfl ?_
      refine g_iconst (q := 31) dX8_nextAtLeast_30 rfl ?_
      refine g_Vw (q := 34) (d' := 0) (i := 90) (av := [.int (iI (2))]) (st := []) kvX8_64 (t_X8_fails l hh1 0 S sv hM0 2) (by decide) fc2 rfl (Nat.le_of_ble_eq_true rfl) ⟨(Nat.le_of_ble_eq_true rfl), (Nat.le_of_ble_eq_true rfl)⟩ ⟨(Nat.le_of_ble_eq_true rfl), (Nat.le_of_ble_eq_true rfl)⟩ rfl rfl dX8_nextAtLeast_31 rfl (fun v hz hp => ?_)
      obtain ⟨rfl, p1, p2⟩ := hp
      exact g_ireturn (fun z => NN_f z) (Nat.le_of_ble_eq_true rfl) (Nat.le_of_ble_eq_true rfl) dX8_nextAtLeast_34 rfl (wP_in ⟨rfl, p1, fun j hj => (p2 j (by omega)).trans (fr0 j (by omega))⟩)
  · omega
set_option maxRecDepth 4000 in
theorem t_X8_countIntersection (l : Launch) (h : EHp) (th : Int) (S : ASt) (sv : List ASt) (hM : MRep h th S sv) (ls : Int) (l0 : 1 ≤ ls) (l1 : ls ≤ 15) : CT l mX8_countIntersection 9 0 0 [.ref (90), .int (iI (ls))] NN h (wP (fun v h' => v = .int (iI ((isc S ls).2.1)) ∧ MRep h' 0 (isc S ls).2.2.2 (push4 S sv) ∧ FrM h h')) := by
  obtain ⟨w, pst, bg, mn, lz, hA, ⟨m1, m2, m3, m4, m5⟩, ⟨⟨cs, s1⟩, ⟨ct, s2⟩, ⟨nx, s3⟩, ⟨fd, s4⟩, ⟨od, s5⟩⟩, hW, hP, hY⟩ := id hM
  refine CT.of (by decide) (Nat.le_of_ble_eq_true rfl) ?_
  refine g_al (al2 := [some (.ref (90)), some (.int (iI (ls)))]) rfl ?_
  refine g_aload_n (q := 1) rfl rfl dX8_countIntersection_0 rfl ?_
  refine g_iconst (q := 2) dX8_countIntersection_1 rfl ?_
  refine g_put (q := 5) fX8_41 (by decide) hA (Nat.le_of_ble_eq_true rfl) (fun _ _ => rfl) (fun _ _ => rfl) dX8_countIntersection_2 rfl ?_
  refine hp_in (fun hh1 ehh1 => ?_)
  have fc2 : hh1 90 = cO 7 [.int (iI (0)), .ref (91), .ref (92), .int (iI (sv.length)), .ref (93), .ref (94), .ref (95), .ref (96), .ref (97), .ref (98), .ref (99), .ref (100)] := by rw [ehh1]; exact ueh_s
  have fc3 : hh1 91 = cI 272 w := by rw [ehh1, ueh_n (by decide)]; exact m1
  refine g_iload_n (q := 6) rfl rfl dX8_countIntersection_5 rfl ?_
  have hM0 : MRep hh1 0 S sv := hM.thr fc2 (fun j hj => by rw [ehh1, ueh_n hj])
  have fr0 : ∀ j, j ≠ 90 → hh1 j = h j := fun j hj => by rw [ehh1, ueh_n hj]
  refine g_Sr (q := 9) (d' := 1) (av := [.int (iI (ls))]) (st := []) (v := .int (iI (1))) ksX8_145 (t_X8_isSet1 l hh1 ls (by omega) (by omega)) rfl (Nat.le_of_ble_eq_true rfl) ⟨(Nat.le_of_ble_eq_true rfl), (Nat.le_of_ble_eq_true rfl)⟩ ⟨(Nat.le_of_ble_eq_true rfl), (Nat.le_of_ble_eq_true rfl)⟩ rfl rfl dX8_countIntersection_6 rfl ?_
  refine g_if_ne (t := 18) (q := 12) ⟨by omega, by omega⟩ dX8_countIntersection_9 rfl rfl (fun c9 => ?_) (fun c9 => ?_)
  · refine g_aload_n (q := 19) rfl rfl dX8_countIntersection_18 rfl ?_
    refine g_Vv (q := 22) (d' := 0) (i := 90) (av := []) (st := []) kvX8_72 (t_X8_save l hh1 0 S sv hM0) (by decide) fc2 rfl (Nat.le_of_ble_eq_true rfl) ⟨(Nat.le_of_ble_eq_true rfl), (Nat.le_of_ble_eq_true rfl)⟩ ⟨(Nat.le_of_ble_eq_true rfl), (Nat.le_of_ble_eq_true rfl)⟩ rfl rfl dX8_countIntersection_19 rfl (fun h1 hp => ?_)
    obtain ⟨hM1, fr1⟩ := hp
    obtain ⟨w1, pst1, bg1, mn1, lz1, A1, ⟨B1, -⟩, -, W1, -⟩ := id hM1
    refine g_aload_n (q := 23) rfl rfl dX8_countIntersection_22 rfl ?_
    refine g_iload_n (q := 24) rfl rfl dX8_countIntersection_23 rfl ?_
    refine g_Vw (q := 27) (d' := 8) (i := 90) (av := [.int (iI (ls))]) (st := []) kvX8_148 (t_X8_meets l h1 0 S (push4 S sv) hM1 ls l0 l1) (by decide) A1 rfl (Nat.le_of_ble_eq_true rfl) ⟨(Nat.le_of_ble_eq_true rfl), (Nat.le_of_ble_eq_true rfl)⟩ ⟨(Nat.le_of_ble_eq_true rfl), (Nat.le_of_ble_eq_true rfl)⟩ rfl rfl dX8_countIntersection_24 rfl (fun v h2 hp => ?_)
    obtain ⟨rfl, hM2, ⟨fd2, q1, q2⟩, fr2⟩ := hp
    exact g_ireturn (fun z => NN_f z) (Nat.le_of_ble_eq_true rfl) (Nat.le_of_ble_eq_true rfl) dX8_countIntersection_27 rfl (wP_in ⟨rfl, hM2, fun j hj => (fr2 j hj).trans ((fr1 j (by omega) (by omega)).trans (fr0 j (by omega)))⟩)
  · omega
set_option maxRecDepth 4000 in
theorem f_X8_countIntersection (l : Launch) (h : EHp) (th : Int) (S : ASt) (sv : List ASt) (hM : MRep h th S sv) (ls : Int) (hi : IR ls) (h0 : ls < 1 ∨ 15 < ls) : CT l mX8_countIntersection 9 0 0 [.ref (90), .int (iI (ls))] NN h (wP (fun v h' => v = .int (iI 0) ∧ MRep h' 1 S sv ∧ FrM h h')) := by
  obtain ⟨w, pst, bg, mn, lz, hA, ⟨m1, m2, m3, m4, m5⟩, ⟨⟨cs, s1⟩, ⟨ct, s2⟩, ⟨nx, s3⟩, ⟨fd, s4⟩, ⟨od, s5⟩⟩, hW, hP, hY⟩ := id hM
  refine CT.of (by decide) (Nat.le_of_ble_eq_true rfl) ?_
  refine g_al (al2 := [some (.ref (90)), some (.int (iI (ls)))]) rfl ?_
  refine g_aload_n (q := 1) rfl rfl dX8_countIntersection_0 rfl ?_
  refine g_iconst (q := 2) dX8_countIntersection_1 rfl ?_
  refine g_put (q := 5) fX8_41 (by decide) hA (Nat.le_of_ble_eq_true rfl) (fun _ _ => rfl) (fun _ _ => rfl) dX8_countIntersection_2 rfl ?_
  refine hp_in (fun hh1 ehh1 => ?_)
  have fc2 : hh1 90 = cO 7 [.int (iI (0)), .ref (91), .ref (92), .int (iI (sv.length)), .ref (93), .ref (94), .ref (95), .ref (96), .ref (97), .ref (98), .ref (99), .ref (100)] := by rw [ehh1]; exact ueh_s
  have fc3 : hh1 91 = cI 272 w := by rw [ehh1, ueh_n (by decide)]; exact m1
  refine g_iload_n (q := 6) rfl rfl dX8_countIntersection_5 rfl ?_
  have hM0 : MRep hh1 0 S sv := hM.thr fc2 (fun j hj => by rw [ehh1, ueh_n hj])
  have fr0 : ∀ j, j ≠ 90 → hh1 j = h j := fun j hj => by rw [ehh1, ueh_n hj]
  refine g_Sr (q := 9) (d' := 1) (av := [.int (iI (ls))]) (st := []) (v := .int (iI (0))) ksX8_145 (t_X8_isSet0 l hh1 ls hi (by omega)) rfl (Nat.le_of_ble_eq_true rfl) ⟨(Nat.le_of_ble_eq_true rfl), (Nat.le_of_ble_eq_true rfl)⟩ ⟨(Nat.le_of_ble_eq_true rfl), (Nat.le_of_ble_eq_true rfl)⟩ rfl rfl dX8_countIntersection_6 rfl ?_
  refine g_if_ne (t := 18) (q := 12) ⟨by omega, by omega⟩ dX8_countIntersection_9 rfl rfl (fun c9 => ?_) (fun c9 => ?_)
  · omega
  · refine g_aload_n (q := 13) rfl rfl dX8_countIntersection_12 rfl ?_
    refine g_iconst (q := 14) dX8_countIntersection_13 rfl ?_
    refine g_Vw (q := 17) (d' := 0) (i := 90) (av := [.int (iI (1))]) (st := []) kvX8_64 (t_X8_fails l hh1 0 S sv hM0 1) (by decide) fc2 rfl (Nat.le_of_ble_eq_true rfl) ⟨(Nat.le_of_ble_eq_true rfl), (Nat.le_of_ble_eq_true rfl)⟩ ⟨(Nat.le_of_ble_eq_true rfl), (Nat.le_of_ble_eq_true rfl)⟩ rfl rfl dX8_countIntersection_14 rfl (fun v hz hp => ?_)
    obtain ⟨rfl, p1, p2⟩ := hp
    exact g_ireturn (fun z => NN_f z) (Nat.le_of_ble_eq_true rfl) (Nat.le_of_ble_eq_true rfl) dX8_countIntersection_17 rfl (wP_in ⟨rfl, p1, fun j hj => (p2 j (by omega)).trans (fr0 j (by omega))⟩)
set_option maxRecDepth 4000 in
theorem t_X8_intersect (l : Launch) (h : EHp) (th : Int) (S : ASt) (sv : List ASt) (hM : MRep h th S sv) (ls : Int) (l0 : 1 ≤ ls) (l1 : ls ≤ 15) (t : Nat) (ht : t < 4) : CT l mX8_intersect 9 0 0 [.ref (90), .int (iI (ls)), .int (iI (t))] NN h (wP (fun v h' => v = .int (iI ((isc S ls).2.1)) ∧ MRep h' 0 (wrL (isc S ls).2.2.2 t (isc S ls).2.1 (isc S ls).2.2.1) (push4 S sv) ∧ FrM h h')) := by
  obtain ⟨w, pst, bg, mn, lz, hA, ⟨m1, m2, m3, m4, m5⟩, ⟨⟨cs, s1⟩, ⟨ct, s2⟩, ⟨nx, s3⟩, ⟨fd, s4⟩, ⟨od, s5⟩⟩, hW, hP, hY⟩ := id hM
  have hLS := hM.LS
  have hLO := isc_LOk hLS (ord_pos l0 l1 hLS)
  refine CT.of (by decide) (Nat.le_of_ble_eq_true rfl) ?_
  refine g_al (al2 := [some (.ref (90)), some (.int (iI (ls))), some (.int (iI (t)))]) rfl ?_
  refine g_aload_n (q := 1) rfl rfl dX8_intersect_0 rfl ?_
  refine g_iconst (q := 2) dX8_intersect_1 rfl ?_
  refine g_put (q := 5) fX8_41 (by decide) hA (Nat.le_of_ble_eq_true rfl) (fun _ _ => rfl) (fun _ _ => rfl) dX8_intersect_2 rfl ?_
  refine hp_in (fun hh1 ehh1 => ?_)
  have fc2 : hh1 90 = cO 7 [.int (iI (0)), .ref (91), .ref (92), .int (iI (sv.length)), .ref (93), .ref (94), .ref (95), .ref (96), .ref (97), .ref (98), .ref (99), .ref (100)] := by rw [ehh1]; exact ueh_s
  have fc3 : hh1 91 = cI 272 w := by rw [ehh1, ueh_n (by decide)]; exact m1
  refine g_iload_n (q := 6) rfl rfl dX8_intersect_5 rfl ?_
  have hM0 : MRep hh1 0 S sv := hM.thr fc2 (fun j hj => by rw [ehh1, ueh_n hj])
  have fr0 : ∀ j, j ≠ 90 → hh1 j = h j := fun j hj => by rw [ehh1, ueh_n hj]
  refine g_Sr (q := 9) (d' := 1) (av := [.int (iI (ls))]) (st := []) (v := .int (iI (1))) ksX8_145 (t_X8_isSet1 l hh1 ls (by omega) (by omega)) rfl (Nat.le_of_ble_eq_true rfl) ⟨(Nat.le_of_ble_eq_true rfl), (Nat.le_of_ble_eq_true rfl)⟩ ⟨(Nat.le_of_ble_eq_true rfl), (Nat.le_of_ble_eq_true rfl)⟩ rfl rfl dX8_intersect_6 rfl ?_
  refine g_if_ne (t := 18) (q := 12) ⟨by omega, by omega⟩ dX8_intersect_9 rfl rfl (fun c9 => ?_) (fun c9 => ?_)
  · refine g_iload_n (q := 19) rfl rfl dX8_intersect_18 rfl ?_
    refine g_Sr (q := 22) (d' := 1) (av := [.int (iI (t))]) (st := []) (v := .int (iI (1))) ksX8_60 (t_X8_isList1 l hh1 t (by omega) (by omega)) rfl (Nat.le_of_ble_eq_true rfl) ⟨(Nat.le_of_ble_eq_true rfl), (Nat.le_of_ble_eq_true rfl)⟩ ⟨(Nat.le_of_ble_eq_true rfl), (Nat.le_of_ble_eq_true rfl)⟩ rfl rfl dX8_intersect_19 rfl ?_
    refine g_if_ne (t := 31) (q := 25) ⟨by omega, by omega⟩ dX8_intersect_22 rfl rfl (fun c22 => ?_) (fun c22 => ?_)
    · refine g_aload_n (q := 32) rfl rfl dX8_intersect_31 rfl ?_
      refine g_Vv (q := 35) (d' := 0) (i := 90) (av := []) (st := []) kvX8_72 (t_X8_save l hh1 0 S sv hM0) (by decide) fc2 rfl (Nat.le_of_ble_eq_true rfl) ⟨(Nat.le_of_ble_eq_true rfl), (Nat.le_of_ble_eq_true rfl)⟩ ⟨(Nat.le_of_ble_eq_true rfl), (Nat.le_of_ble_eq_true rfl)⟩ rfl rfl dX8_intersect_32 rfl (fun h1 hp => ?_)
      obtain ⟨hM1, fr1⟩ := hp
      obtain ⟨w1, pst1, bg1, mn1, lz1, A1, ⟨B1, -⟩, -, W1, -⟩ := id hM1
      refine g_aload_n (q := 36) rfl rfl dX8_intersect_35 rfl ?_
      refine g_iload_n (q := 37) rfl rfl dX8_intersect_36 rfl ?_
      refine g_aload_n (q := 38) rfl rfl dX8_intersect_37 rfl ?_
      refine g_iload_n (q := 39) rfl rfl dX8_intersect_38 rfl ?_
      refine g_Vw (q := 42) (d' := 8) (i := 90) (av := [.int (iI (ls))]) (st := [.int (iI (t)), .ref (90)]) kvX8_148 (t_X8_meets l h1 0 S (push4 S sv) hM1 ls l0 l1) (by decide) A1 rfl (Nat.le_of_ble_eq_true rfl) ⟨(Nat.le_of_ble_eq_true rfl), (Nat.le_of_ble_eq_true rfl)⟩ ⟨(Nat.le_of_ble_eq_true rfl), (Nat.le_of_ble_eq_true rfl)⟩ rfl rfl dX8_intersect_39 rfl (fun v h2 hp => ?_)
      obtain ⟨rfl, hM2, ⟨fd2, q1, q2⟩, fr2⟩ := hp
      obtain ⟨w2, pst2, bg2, mn2, lz2, A2, ⟨B2, -⟩, -, W2, -⟩ := id hM2
      refine g_Vw (q := 45) (d' := 2) (i := 90) (av := [.int (iI (t)), .int (iI ((isc S ls).2.1))]) (st := []) kvX8_151 (t_X8_writes l h2 0 (isc S ls).2.2.2 (push4 S sv) hM2 t ht (isc S ls).2.1 (isc S ls).2.2.1 fd2 q1 q2 hLO) (by decide) A2 rfl (Nat.le_of_ble_eq_true rfl) ⟨(Nat.le_of_ble_eq_true rfl), (Nat.le_of_ble_eq_true rfl)⟩ ⟨(Nat.le_of_ble_eq_true rfl), (Nat.le_of_ble_eq_true rfl)⟩ rfl rfl dX8_intersect_42 rfl (fun v h9 hp => ?_)
      obtain ⟨rfl, hM9, fr9⟩ := hp
      exact g_ireturn (fun z => NN_f z) (Nat.le_of_ble_eq_true rfl) (Nat.le_of_ble_eq_true rfl) dX8_intersect_45 rfl (wP_in ⟨rfl, hM9, fun j hj => (fr9 j hj).trans ((fr2 j hj).trans ((fr1 j (by omega) (by omega)).trans (fr0 j (by omega))))⟩)
    · omega
  · omega
set_option maxRecDepth 4000 in
theorem f_X8_intersect (l : Launch) (h : EHp) (th : Int) (S : ASt) (sv : List ASt) (hM : MRep h th S sv) (ls t : Int) (hi : IR ls) (h0 : ls < 1 ∨ 15 < ls) : CT l mX8_intersect 9 0 0 [.ref (90), .int (iI (ls)), .int (iI (t))] NN h (wP (fun v h' => v = .int (iI 0) ∧ MRep h' 1 S sv ∧ FrM h h')) := by
  obtain ⟨w, pst, bg, mn, lz, hA, ⟨m1, m2, m3, m4, m5⟩, ⟨⟨cs, s1⟩, ⟨ct, s2⟩, ⟨nx, s3⟩, ⟨fd, s4⟩, ⟨od, s5⟩⟩, hW, hP, hY⟩ := id hM
  refine CT.of (by decide) (Nat.le_of_ble_eq_true rfl) ?_
  refine g_al (al2 := [some (.ref (90)), some (.int (iI (ls))), some (.int (iI (t)))]) rfl ?_
  refine g_aload_n (q := 1) rfl rfl dX8_intersect_0 rfl ?_
  refine g_iconst (q := 2) dX8_intersect_1 rfl ?_
  refine g_put (q := 5) fX8_41 (by decide) hA (Nat.le_of_ble_eq_true rfl) (fun _ _ => rfl) (fun _ _ => rfl) dX8_intersect_2 rfl ?_
  refine hp_in (fun hh1 ehh1 => ?_)
  have fc2 : hh1 90 = cO 7 [.int (iI (0)), .ref (91), .ref (92), .int (iI (sv.length)), .ref (93), .ref (94), .ref (95), .ref (96), .ref (97), .ref (98), .ref (99), .ref (100)] := by rw [ehh1]; exact ueh_s
  have fc3 : hh1 91 = cI 272 w := by rw [ehh1, ueh_n (by decide)]; exact m1
  refine g_iload_n (q := 6) rfl rfl dX8_intersect_5 rfl ?_
  have hM0 : MRep hh1 0 S sv := hM.thr fc2 (fun j hj => by rw [ehh1, ueh_n hj])
  have fr0 : ∀ j, j ≠ 90 → hh1 j = h j := fun j hj => by rw [ehh1, ueh_n hj]
  refine g_Sr (q := 9) (d' := 1) (av := [.int (iI (ls))]) (st := []) (v := .int (iI (0))) ksX8_145 (t_X8_isSet0 l hh1 ls hi (by omega)) rfl (Nat.le_of_ble_eq_true rfl) ⟨(Nat.le_of_ble_eq_true rfl), (Nat.le_of_ble_eq_true rfl)⟩ ⟨(Nat.le_of_ble_eq_true rfl), (Nat.le_of_ble_eq_true rfl)⟩ rfl rfl dX8_intersect_6 rfl ?_
  refine g_if_ne (t := 18) (q := 12) ⟨by omega, by omega⟩ dX8_intersect_9 rfl rfl (fun c9 => ?_) (fun c9 => ?_)
  · omega
  · refine g_aload_n (q := 13) rfl rfl dX8_intersect_12 rfl ?_
    refine g_iconst (q := 14) dX8_intersect_13 rfl ?_
    refine g_Vw (q := 17) (d' := 0) (i := 90) (av := [.int (iI (1))]) (st := []) kvX8_64 (t_X8_fails l hh1 0 S sv hM0 1) (by decide) fc2 rfl (Nat.le_of_ble_eq_true rfl) ⟨(Nat.le_of_ble_eq_true rfl), (Nat.le_of_ble_eq_true rfl)⟩ ⟨(Nat.le_of_ble_eq_true rfl), (Nat.le_of_ble_eq_true rfl)⟩ rfl rfl dX8_intersect_14 rfl (fun v hz hp => ?_)
    obtain ⟨rfl, p1, p2⟩ := hp
    exact g_ireturn (fun z => NN_f z) (Nat.le_of_ble_eq_true rfl) (Nat.le_of_ble_eq_true rfl) dX8_intersect_17 rfl (wP_in ⟨rfl, p1, fun j hj => (p2 j (by omega)).trans (fr0 j (by omega))⟩)
set_option maxRecDepth 4000 in
theorem f2_X8_intersect (l : Launch) (h : EHp) (th : Int) (S : ASt) (sv : List ASt) (hM : MRep h th S sv) (ls : Int) (l0 : 1 ≤ ls) (l1 : ls ≤ 15) (t : Int) (ht : IR t) (h0 : t < 0 ∨ 4 ≤ t) : CT l mX8_intersect 9 0 0 [.ref (90), .int (iI (ls)), .int (iI (t))] NN h (wP (fun v h' => v = .int (iI 0) ∧ MRep h' 2 S sv ∧ FrM h h')) := by
  obtain ⟨w, pst, bg, mn, lz, hA, ⟨m1, m2, m3, m4, m5⟩, ⟨⟨cs, s1⟩, ⟨ct, s2⟩, ⟨nx, s3⟩, ⟨fd, s4⟩, ⟨od, s5⟩⟩, hW, hP, hY⟩ := id hM
  refine CT.of (by decide) (Nat.le_of_ble_eq_true rfl) ?_
  refine g_al (al2 := [some (.ref (90)), some (.int (iI (ls))), some (.int (iI (t)))]) rfl ?_
  refine g_aload_n (q := 1) rfl rfl dX8_intersect_0 rfl ?_
  refine g_iconst (q := 2) dX8_intersect_1 rfl ?_
  refine g_put (q := 5) fX8_41 (by decide) hA (Nat.le_of_ble_eq_true rfl) (fun _ _ => rfl) (fun _ _ => rfl) dX8_intersect_2 rfl ?_
  refine hp_in (fun hh1 ehh1 => ?_)
  have fc2 : hh1 90 = cO 7 [.int (iI (0)), .ref (91), .ref (92), .int (iI (sv.length)), .ref (93), .ref (94), .ref (95), .ref (96), .ref (97), .ref (98), .ref (99), .ref (100)] := by rw [ehh1]; exact ueh_s
  have fc3 : hh1 91 = cI 272 w := by rw [ehh1, ueh_n (by decide)]; exact m1
  refine g_iload_n (q := 6) rfl rfl dX8_intersect_5 rfl ?_
  have hM0 : MRep hh1 0 S sv := hM.thr fc2 (fun j hj => by rw [ehh1, ueh_n hj])
  have fr0 : ∀ j, j ≠ 90 → hh1 j = h j := fun j hj => by rw [ehh1, ueh_n hj]
  refine g_Sr (q := 9) (d' := 1) (av := [.int (iI (ls))]) (st := []) (v := .int (iI (1))) ksX8_145 (t_X8_isSet1 l hh1 ls (by omega) (by omega)) rfl (Nat.le_of_ble_eq_true rfl) ⟨(Nat.le_of_ble_eq_true rfl), (Nat.le_of_ble_eq_true rfl)⟩ ⟨(Nat.le_of_ble_eq_true rfl), (Nat.le_of_ble_eq_true rfl)⟩ rfl rfl dX8_intersect_6 rfl ?_
  refine g_if_ne (t := 18) (q := 12) ⟨by omega, by omega⟩ dX8_intersect_9 rfl rfl (fun c9 => ?_) (fun c9 => ?_)
  · refine g_iload_n (q := 19) rfl rfl dX8_intersect_18 rfl ?_
    refine g_Sr (q := 22) (d' := 1) (av := [.int (iI (t))]) (st := []) (v := .int (iI (0))) ksX8_60 (t_X8_isList0 l hh1 t ht (by omega)) rfl (Nat.le_of_ble_eq_true rfl) ⟨(Nat.le_of_ble_eq_true rfl), (Nat.le_of_ble_eq_true rfl)⟩ ⟨(Nat.le_of_ble_eq_true rfl), (Nat.le_of_ble_eq_true rfl)⟩ rfl rfl dX8_intersect_19 rfl ?_
    refine g_if_ne (t := 31) (q := 25) ⟨by omega, by omega⟩ dX8_intersect_22 rfl rfl (fun c22 => ?_) (fun c22 => ?_)
    · omega
    · refine g_aload_n (q := 26) rfl rfl dX8_intersect_25 rfl ?_
      refine g_iconst (q := 27) dX8_intersect_26 rfl ?_
      refine g_Vw (q := 30) (d' := 0) (i := 90) (av := [.int (iI (2))]) (st := []) kvX8_64 (t_X8_fails l hh1 0 S sv hM0 2) (by decide) fc2 rfl (Nat.le_of_ble_eq_true rfl) ⟨(Nat.le_of_ble_eq_true rfl), (Nat.le_of_ble_eq_true rfl)⟩ ⟨(Nat.le_of_ble_eq_true rfl), (Nat.le_of_ble_eq_true rfl)⟩ rfl rfl dX8_intersect_27 rfl (fun v hz hp => ?_)
      obtain ⟨rfl, p1, p2⟩ := hp
      exact g_ireturn (fun z => NN_f z) (Nat.le_of_ble_eq_true rfl) (Nat.le_of_ble_eq_true rfl) dX8_intersect_30 rfl (wP_in ⟨rfl, p1, fun j hj => (p2 j (by omega)).trans (fr0 j (by omega))⟩)
  · omega
set_option maxRecDepth 4000 in
theorem t_X8_reads (l : Launch) (h : EHp) (th : Int) (S : ASt) (sv : List ASt) (hM : MRep h th S sv) : CT l mX8_reads 0 0 0 [.ref (90)] NN h (wP (fun v h' => v = .int (iI (S.2.2.2.1)) ∧ MRep h' 0 S sv ∧ FrM h h')) := by
  obtain ⟨w, pst, bg, mn, lz, hA, ⟨m1, m2, m3, m4, m5⟩, ⟨⟨cs, s1⟩, ⟨ct, s2⟩, ⟨nx, s3⟩, ⟨fd, s4⟩, ⟨od, s5⟩⟩, hW, hP, hY⟩ := id hM
  obtain ⟨wl, w8⟩ := hW.len
  obtain ⟨-, -, -, -, w270, w271, -⟩ := id hW
  refine CT.of (by decide) (Nat.le_of_ble_eq_true rfl) ?_
  refine g_al (al2 := [some (.ref (90))]) rfl ?_
  refine g_aload_n (q := 1) rfl rfl dX8_reads_0 rfl ?_
  refine g_iconst (q := 2) dX8_reads_1 rfl ?_
  refine g_put (q := 5) fX8_41 (by decide) hA (Nat.le_of_ble_eq_true rfl) (fun _ _ => rfl) (fun _ _ => rfl) dX8_reads_2 rfl ?_
  refine hp_in (fun hh1 ehh1 => ?_)
  have fc2 : hh1 90 = cO 7 [.int (iI (0)), .ref (91), .ref (92), .int (iI (sv.length)), .ref (93), .ref (94), .ref (95), .ref (96), .ref (97), .ref (98), .ref (99), .ref (100)] := by rw [ehh1]; exact ueh_s
  have fc3 : hh1 91 = cI 272 w := by rw [ehh1, ueh_n (by decide)]; exact m1
  refine g_aload_n (q := 6) rfl rfl dX8_reads_5 rfl ?_
  refine g_get (q := 9) fX8_7r (by decide) fc2 rfl dX8_reads_6 rfl ?_
  refine g_sipush (q := 12) (by decide) dX8_reads_9 rfl ?_
  have hM0 : MRep hh1 0 S sv := hM.thr fc2 (fun j hj => by rw [ehh1, ueh_n hj])
  have fr0 : ∀ j, j ≠ 90 → hh1 j = h j := fun j hj => by rw [ehh1, ueh_n hj]
  refine g_iaload (q := 13) (by decide) fc3 (by decide) (by decide) (by decide) dX8_reads_12 rfl ?_
  rw [w270]
  exact g_ireturn (fun z => NN_f z) (Nat.le_of_ble_eq_true rfl) (Nat.le_of_ble_eq_true rfl) dX8_reads_13 rfl (wP_in ⟨rfl, hM0, fun j hj => fr0 j (by omega)⟩)
set_option maxRecDepth 4000 in
theorem t_X8_hits (l : Launch) (h : EHp) (th : Int) (S : ASt) (sv : List ASt) (hM : MRep h th S sv) : CT l mX8_hits 0 0 0 [.ref (90)] NN h (wP (fun v h' => v = .int (iI (S.2.2.2.2)) ∧ MRep h' 0 S sv ∧ FrM h h')) := by
  obtain ⟨w, pst, bg, mn, lz, hA, ⟨m1, m2, m3, m4, m5⟩, ⟨⟨cs, s1⟩, ⟨ct, s2⟩, ⟨nx, s3⟩, ⟨fd, s4⟩, ⟨od, s5⟩⟩, hW, hP, hY⟩ := id hM
  obtain ⟨wl, w8⟩ := hW.len
  obtain ⟨-, -, -, -, w270, w271, -⟩ := id hW
  refine CT.of (by decide) (Nat.le_of_ble_eq_true rfl) ?_
  refine g_al (al2 := [some (.ref (90))]) rfl ?_
  refine g_aload_n (q := 1) rfl rfl dX8_hits_0 rfl ?_
  refine g_iconst (q := 2) dX8_hits_1 rfl ?_
  refine g_put (q := 5) fX8_41 (by decide) hA (Nat.le_of_ble_eq_true rfl) (fun _ _ => rfl) (fun _ _ => rfl) dX8_hits_2 rfl ?_
  refine hp_in (fun hh1 ehh1 => ?_)
  have fc2 : hh1 90 = cO 7 [.int (iI (0)), .ref (91), .ref (92), .int (iI (sv.length)), .ref (93), .ref (94), .ref (95), .ref (96), .ref (97), .ref (98), .ref (99), .ref (100)] := by rw [ehh1]; exact ueh_s
  have fc3 : hh1 91 = cI 272 w := by rw [ehh1, ueh_n (by decide)]; exact m1
  refine g_aload_n (q := 6) rfl rfl dX8_hits_5 rfl ?_
  refine g_get (q := 9) fX8_7r (by decide) fc2 rfl dX8_hits_6 rfl ?_
  refine g_sipush (q := 12) (by decide) dX8_hits_9 rfl ?_
  have hM0 : MRep hh1 0 S sv := hM.thr fc2 (fun j hj => by rw [ehh1, ueh_n hj])
  have fr0 : ∀ j, j ≠ 90 → hh1 j = h j := fun j hj => by rw [ehh1, ueh_n hj]
  refine g_iaload (q := 13) (by decide) fc3 (by decide) (by decide) (by decide) dX8_hits_12 rfl ?_
  rw [w271]
  exact g_ireturn (fun z => NN_f z) (Nat.le_of_ble_eq_true rfl) (Nat.le_of_ble_eq_true rfl) dX8_hits_13 rfl (wP_in ⟨rfl, hM0, fun j hj => fr0 j (by omega)⟩)
set_option maxRecDepth 4000 in
theorem t_X8_cached (l : Launch) (h : EHp) (th : Int) (S : ASt) (sv : List ASt) (hM : MRep h th S sv) : CT l mX8_cached 0 0 0 [.ref (90)] NN h (wP (fun v h' => v = .int (iI (S.2.2.1.length)) ∧ MRep h' 0 S sv ∧ FrM h h')) := by
  obtain ⟨w, pst, bg, mn, lz, hA, ⟨m1, m2, m3, m4, m5⟩, ⟨⟨cs, s1⟩, ⟨ct, s2⟩, ⟨nx, s3⟩, ⟨fd, s4⟩, ⟨od, s5⟩⟩, hW, hP, hY⟩ := id hM
  obtain ⟨wl, w8⟩ := hW.len
  obtain ⟨-, -, -, -, w270, w271, -⟩ := id hW
  refine CT.of (by decide) (Nat.le_of_ble_eq_true rfl) ?_
  refine g_al (al2 := [some (.ref (90))]) rfl ?_
  refine g_aload_n (q := 1) rfl rfl dX8_cached_0 rfl ?_
  refine g_iconst (q := 2) dX8_cached_1 rfl ?_
  refine g_put (q := 5) fX8_41 (by decide) hA (Nat.le_of_ble_eq_true rfl) (fun _ _ => rfl) (fun _ _ => rfl) dX8_cached_2 rfl ?_
  refine hp_in (fun hh1 ehh1 => ?_)
  have fc2 : hh1 90 = cO 7 [.int (iI (0)), .ref (91), .ref (92), .int (iI (sv.length)), .ref (93), .ref (94), .ref (95), .ref (96), .ref (97), .ref (98), .ref (99), .ref (100)] := by rw [ehh1]; exact ueh_s
  have fc3 : hh1 91 = cI 272 w := by rw [ehh1, ueh_n (by decide)]; exact m1
  refine g_aload_n (q := 6) rfl rfl dX8_cached_5 rfl ?_
  refine g_get (q := 9) fX8_7r (by decide) fc2 rfl dX8_cached_6 rfl ?_
  refine g_sipush (q := 12) (by decide) dX8_cached_9 rfl ?_
  have hM0 : MRep hh1 0 S sv := hM.thr fc2 (fun j hj => by rw [ehh1, ueh_n hj])
  have fr0 : ∀ j, j ≠ 90 → hh1 j = h j := fun j hj => by rw [ehh1, ueh_n hj]
  refine g_iaload (q := 13) (by decide) fc3 (by decide) (by decide) (by decide) dX8_cached_12 rfl ?_
  rw [wl]
  exact g_ireturn (fun z => NN_f z) (Nat.le_of_ble_eq_true rfl) (Nat.le_of_ble_eq_true rfl) dX8_cached_13 rfl (wP_in ⟨rfl, hM0, fun j hj => fr0 j (by omega)⟩)
set_option maxRecDepth 4000 in
theorem t_X8_cachedAt (l : Launch) (h : EHp) (th : Int) (S : ASt) (sv : List ASt) (hM : MRep h th S sv) (k : Nat) (v : Int) (hk : S.2.2.1[k]? = some v) : CT l mX8_cachedAt 1 0 0 [.ref (90), .int (iI (k))] NN h (wP (fun v9 h' => v9 = .int (iI (v)) ∧ MRep h' 0 S sv ∧ FrM h h')) := by
  obtain ⟨w, pst, bg, mn, lz, hA, ⟨m1, m2, m3, m4, m5⟩, ⟨⟨cs, s1⟩, ⟨ct, s2⟩, ⟨nx, s3⟩, ⟨fd, s4⟩, ⟨od, s5⟩⟩, hW, hP, hY⟩ := id hM
  obtain ⟨wl, w8⟩ := hW.len
  obtain ⟨-, -, -, wcl, -⟩ := id hW
  have kl := (List.getElem?_eq_some_iff.mp hk).1
  have ev := wcl k v hk
  refine CT.of (by decide) (Nat.le_of_ble_eq_true rfl) ?_
  refine g_al (al2 := [some (.ref (90)), some (.int (iI (k)))]) rfl ?_
  refine g_aload_n (q := 1) rfl rfl dX8_cachedAt_0 rfl ?_
  refine g_iconst (q := 2) dX8_cachedAt_1 rfl ?_
  refine g_put (q := 5) fX8_41 (by decide) hA (Nat.le_of_ble_eq_true rfl) (fun _ _ => rfl) (fun _ _ => rfl) dX8_cachedAt_2 rfl ?_
  refine hp_in (fun hh1 ehh1 => ?_)
  have fc2 : hh1 90 = cO 7 [.int (iI (0)), .ref (91), .ref (92), .int (iI (sv.length)), .ref (93), .ref (94), .ref (95), .ref (96), .ref (97), .ref (98), .ref (99), .ref (100)] := by rw [ehh1]; exact ueh_s
  have fc3 : hh1 91 = cI 272 w := by rw [ehh1, ueh_n (by decide)]; exact m1
  refine g_iload_n (q := 6) rfl rfl dX8_cachedAt_5 rfl ?_
  refine g_iconst (q := 7) dX8_cachedAt_6 rfl ?_
  refine g_aload_n (q := 8) rfl rfl dX8_cachedAt_7 rfl ?_
  refine g_get (q := 11) fX8_7r (by decide) fc2 rfl dX8_cachedAt_8 rfl ?_
  refine g_sipush (q := 14) (by decide) dX8_cachedAt_11 rfl ?_
  have hM0 : MRep hh1 0 S sv := hM.thr fc2 (fun j hj => by rw [ehh1, ueh_n hj])
  have fr0 : ∀ j, j ≠ 90 → hh1 j = h j := fun j hj => by rw [ehh1, ueh_n hj]
  refine g_iaload (q := 15) (by decide) fc3 (by decide) (by decide) (by decide) dX8_cachedAt_14 rfl ?_
  rw [wl]
  refine g_iconst (q := 16) dX8_cachedAt_15 rfl ?_
  refine g_isub (q := 17) dX8_cachedAt_16 rfl ?_
  refine g_Sr (q := 20) (d' := 0) (av := [.int (iI (k)), .int (iI (0)), .int (iI (S.2.2.1.length - 1))]) (st := []) (v := .int (iI (1))) ksX8_45 (t_X8_in1 l hh1 ((k : Int)) (0) ((S.2.2.1.length : Int) - 1) ⟨by omega, by omega⟩ ⟨by omega, by omega⟩ ⟨by omega, by omega⟩ (by omega) (by omega)) rfl (Nat.le_of_ble_eq_true rfl) ⟨(Nat.le_of_ble_eq_true rfl), (Nat.le_of_ble_eq_true rfl)⟩ ⟨(Nat.le_of_ble_eq_true rfl), (Nat.le_of_ble_eq_true rfl)⟩ rfl rfl dX8_cachedAt_17 rfl ?_
  refine g_if_eq (t := 36) (q := 23) ⟨by omega, by omega⟩ dX8_cachedAt_20 rfl rfl (fun c20 => ?_) (fun c20 => ?_)
  · omega
  · refine g_aload_n (q := 24) rfl rfl dX8_cachedAt_23 rfl ?_
    refine g_get (q := 27) fX8_7r (by decide) fc2 rfl dX8_cachedAt_24 rfl ?_
    refine g_sipush (q := 30) (by decide) dX8_cachedAt_27 rfl ?_
    refine g_iload_n (q := 31) rfl rfl dX8_cachedAt_30 rfl ?_
    refine g_iadd (q := 32) dX8_cachedAt_31 rfl ?_
    refine g_iaload (q := 33) (by decide) fc3 (by omega) (by omega) (by decide) dX8_cachedAt_32 rfl ?_
    rw [ev]
    refine g_goto (q := 41) dX8_cachedAt_33 rfl ?_
    exact g_ireturn (fun z => NN_f z) (Nat.le_of_ble_eq_true rfl) (Nat.le_of_ble_eq_true rfl) dX8_cachedAt_41 rfl (wP_in ⟨rfl, hM0, fun j hj => fr0 j (by omega)⟩)
set_option maxRecDepth 4000 in
theorem f_X8_cachedAt (l : Launch) (h : EHp) (th : Int) (S : ASt) (sv : List ASt) (hM : MRep h th S sv) (k : Int) (hk : IR k) (hx : k < 0 ∨ (S.2.2.1.length : Int) ≤ k) : CT l mX8_cachedAt 1 0 0 [.ref (90), .int (iI (k))] NN h (wP (fun v h' => v = .int (iI 0) ∧ MRep h' 1 S sv ∧ FrM h h')) := by
  obtain ⟨w, pst, bg, mn, lz, hA, ⟨m1, m2, m3, m4, m5⟩, ⟨⟨cs, s1⟩, ⟨ct, s2⟩, ⟨nx, s3⟩, ⟨fd, s4⟩, ⟨od, s5⟩⟩, hW, hP, hY⟩ := id hM
  obtain ⟨wl, w8⟩ := hW.len
  refine CT.of (by decide) (Nat.le_of_ble_eq_true rfl) ?_
  refine g_al (al2 := [some (.ref (90)), some (.int (iI (k)))]) rfl ?_
  refine g_aload_n (q := 1) rfl rfl dX8_cachedAt_0 rfl ?_
  refine g_iconst (q := 2) dX8_cachedAt_1 rfl ?_
  refine g_put (q := 5) fX8_41 (by decide) hA (Nat.le_of_ble_eq_true rfl) (fun _ _ => rfl) (fun _ _ => rfl) dX8_cachedAt_2 rfl ?_
  refine hp_in (fun hh1 ehh1 => ?_)
  have fc2 : hh1 90 = cO 7 [.int (iI (0)), .ref (91), .ref (92), .int (iI (sv.length)), .ref (93), .ref (94), .ref (95), .ref (96), .ref (97), .ref (98), .ref (99), .ref (100)] := by rw [ehh1]; exact ueh_s
  have fc3 : hh1 91 = cI 272 w := by rw [ehh1, ueh_n (by decide)]; exact m1
  refine g_iload_n (q := 6) rfl rfl dX8_cachedAt_5 rfl ?_
  refine g_iconst (q := 7) dX8_cachedAt_6 rfl ?_
  refine g_aload_n (q := 8) rfl rfl dX8_cachedAt_7 rfl ?_
  refine g_get (q := 11) fX8_7r (by decide) fc2 rfl dX8_cachedAt_8 rfl ?_
  refine g_sipush (q := 14) (by decide) dX8_cachedAt_11 rfl ?_
  have hM0 : MRep hh1 0 S sv := hM.thr fc2 (fun j hj => by rw [ehh1, ueh_n hj])
  have fr0 : ∀ j, j ≠ 90 → hh1 j = h j := fun j hj => by rw [ehh1, ueh_n hj]
  refine g_iaload (q := 15) (by decide) fc3 (by decide) (by decide) (by decide) dX8_cachedAt_14 rfl ?_
  rw [wl]
  refine g_iconst (q := 16) dX8_cachedAt_15 rfl ?_
  refine g_isub (q := 17) dX8_cachedAt_16 rfl ?_
  refine g_Sr (q := 20) (d' := 0) (av := [.int (iI (k)), .int (iI (0)), .int (iI (S.2.2.1.length - 1))]) (st := []) (v := .int (iI (0))) ksX8_45 (t_X8_in0 l hh1 (k) (0) ((S.2.2.1.length : Int) - 1) hk ⟨by omega, by omega⟩ ⟨by omega, by omega⟩ (by omega)) rfl (Nat.le_of_ble_eq_true rfl) ⟨(Nat.le_of_ble_eq_true rfl), (Nat.le_of_ble_eq_true rfl)⟩ ⟨(Nat.le_of_ble_eq_true rfl), (Nat.le_of_ble_eq_true rfl)⟩ rfl rfl dX8_cachedAt_17 rfl ?_
  refine g_if_eq (t := 36) (q := 23) ⟨by omega, by omega⟩ dX8_cachedAt_20 rfl rfl (fun c20 => ?_) (fun c20 => ?_)
  · refine g_aload_n (q := 37) rfl rfl dX8_cachedAt_36 rfl ?_
    refine g_iconst (q := 38) dX8_cachedAt_37 rfl ?_
    refine g_Vw (q := 41) (d' := 0) (i := 90) (av := [.int (iI (1))]) (st := []) kvX8_64 (t_X8_fails l hh1 0 S sv hM0 1) (by decide) fc2 rfl (Nat.le_of_ble_eq_true rfl) ⟨(Nat.le_of_ble_eq_true rfl), (Nat.le_of_ble_eq_true rfl)⟩ ⟨(Nat.le_of_ble_eq_true rfl), (Nat.le_of_ble_eq_true rfl)⟩ rfl rfl dX8_cachedAt_38 rfl (fun v hz hp => ?_)
    obtain ⟨rfl, p1, p2⟩ := hp
    exact g_ireturn (fun z => NN_f z) (Nat.le_of_ble_eq_true rfl) (Nat.le_of_ble_eq_true rfl) dX8_cachedAt_41 rfl (wP_in ⟨rfl, p1, fun j hj => (p2 j (by omega)).trans (fr0 j (by omega))⟩)
  · omega
