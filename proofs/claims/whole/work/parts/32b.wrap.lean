/-! ===== the law's wrappers ===== -/
theorem vp_updL_0 {f : Nat → Int64} {x : Int64} : vp_updL f ((0 : Int)).toNat x 0 = x := by unfold vp_updL; simp
theorem vf_upd_0 {f : Nat → UInt64} {x : UInt64} : vf_upd f ((0 : Int)).toNat x 0 = x := by unfold vf_upd; simp
set_option maxRecDepth 4000 in
theorem o_L_append (l : Launch) (h : EHp) (S S' : ASt) (sv sv' : List ASt) (z1 z2 : Int) (hC : CRep h S sv) (f0 : Nat → Int64) (ho : h 101 = cJ 1 f0) (v0 : Int) (hM : CT l mX7_append 10 0 0 [.ref (0), .int (iI (z1)), .int (iI (z2))] NN h (CQ h S' sv' v0)) : CT l mL_append 11 1 6 [.ref (0), .int (iI (z1)), .int (iI (z2)), .ref (101)] NN h (WQ h S' sv' 0 v0) := by
  obtain ⟨g0, -⟩ := id hC
  refine CT.of (by decide) (Nat.le_of_ble_eq_true rfl) ?_
  refine g_al (al2 := [some (.ref (0)), some (.int (iI (z1))), some (.int (iI (z2))), some (.ref (101)), none]) rfl ?_
  refine g_aload_n (q := 1) rfl rfl dL_append_0 rfl ?_
  refine g_iconst (q := 2) dL_append_1 rfl ?_
  refine g_aload_n (q := 3) rfl rfl dL_append_2 rfl ?_
  refine g_iload_n (q := 4) rfl rfl dL_append_3 rfl ?_
  refine g_iload_n (q := 5) rfl rfl dL_append_4 rfl ?_
  refine g_HVw (q := 8) (d' := 10) (i := 0) (av := [.int (iI (z1)), .int (iI (z2))]) (st := [.int (iI (0)), .ref (101)]) kvL_7 hM (by decide) g0 rfl (Nat.le_of_ble_eq_true rfl) ⟨(Nat.le_of_ble_eq_true rfl), (Nat.le_of_ble_eq_true rfl)⟩ ⟨(Nat.le_of_ble_eq_true rfl), (Nat.le_of_ble_eq_true rfl)⟩ rfl dL_append_5 rfl (fun v h1 hp => ?_)
  obtain ⟨rfl, p1, p2⟩ := hp
  have ho1 : h1 101 = _ := (p2 101 (by decide)).trans ho
  refine g_i2l (q := 9) dL_append_8 rfl ?_
  refine g_lastore (q := 10) (by decide) ho1 (by decide) (by decide) (by decide) dL_append_9 rfl ?_
  refine hp_in (fun hh1 ehh1 => ?_)
  have fc2 : hh1 101 = cJ 1 (vp_updL f0 (0:Int).toNat ((iI v0).toInt64)) := by rw [ehh1]; exact ueh_s
  refine g_goto (q := 25) dL_append_10 rfl ?_
  refine g_iconst (q := 26) dL_append_25 rfl ?_
  exact g_ireturn (fun z => NN_f z) (Nat.le_of_ble_eq_true rfl) (Nat.le_of_ble_eq_true rfl) dL_append_26 rfl (wP_in ⟨rfl, p1.cells (fun j hj => by rw [ehh1, ueh_n (by omega)]), ⟨_, fc2, fun _ => vp_updL_0⟩, fun j a b => by rw [ehh1, ueh_n b]; exact p2 j a⟩)
set_option maxRecDepth 4000 in
theorem x1_L_append (l : Launch) (h : EHp) (S S' : ASt) (sv sv' : List ASt) (z1 z2 : Int) (hC : CRep h S sv) (f0 : Nat → Int64) (ho : h 101 = cJ 1 f0) (hM : CT l mX7_append 10 1 6 [.ref (0), .int (iI (z1)), .int (iI (z2))] NN h (CX9 h S' sv' eIO)) : CT l mL_append 11 1 6 [.ref (0), .int (iI (z1)), .int (iI (z2)), .ref (101)] NN h (WQ h S' sv' 1 0) := by
  obtain ⟨g0, -⟩ := id hC
  refine CT.of (by decide) (Nat.le_of_ble_eq_true rfl) ?_
  refine g_al (al2 := [some (.ref (0)), some (.int (iI (z1))), some (.int (iI (z2))), some (.ref (101)), none]) rfl ?_
  refine g_aload_n (q := 1) rfl rfl dL_append_0 rfl ?_
  refine g_iconst (q := 2) dL_append_1 rfl ?_
  refine g_aload_n (q := 3) rfl rfl dL_append_2 rfl ?_
  refine g_iload_n (q := 4) rfl rfl dL_append_3 rfl ?_
  refine g_iload_n (q := 5) rfl rfl dL_append_4 rfl ?_
  refine g_HVx (d' := 10) (i := 0) (av := [.int (iI (z1)), .int (iI (z2))]) (st := [.int (iI (0)), .ref (101)]) (pre := []) (suf := [(0, 10, 17, 15), (0, 10, 21, 17)]) (sp := 0) (ep := 10) (hp0 := 13) (ct := 13) (j := 4) (q2 := 15) kvL_7 hM (by decide) g0 rfl (Nat.le_of_ble_eq_true rfl) ⟨(Nat.le_of_ble_eq_true rfl), (Nat.le_of_ble_eq_true rfl)⟩ ⟨(Nat.le_of_ble_eq_true rfl), (Nat.le_of_ble_eq_true rfl)⟩ rfl dL_append_5 rfl (fun z hz => by cases hz) ⟨(Nat.le_of_ble_eq_true rfl), (Nat.le_of_ble_eq_true rfl)⟩ (by decide) tw_238 (by decide +kernel) (Or.inr ⟨dL_append_13, rfl⟩) (Nat.le_of_ble_eq_true rfl) rfl (fun h1 hp => ?_)
  obtain ⟨p1, p2⟩ := hp
  show G l noX mL_append 11 1 6 (WQ h S' sv' 1 0) 1 6 15 [some (.ref (0)), some (.int (iI (z1))), some (.int (iI (z2))), some (.ref (101)), none] [] NN h1
  refine g_iconst (q := 16) dL_append_15 rfl ?_
  exact g_ireturn (fun z => NN_f z) (Nat.le_of_ble_eq_true rfl) (Nat.le_of_ble_eq_true rfl) dL_append_16 rfl (wP_in ⟨rfl, p1, ⟨f0, (p2 101 (by decide)).trans ho, fun z => absurd z (by decide)⟩, fun j a b => p2 j a⟩)
set_option maxRecDepth 4000 in
theorem x2_L_append (l : Launch) (h : EHp) (S S' : ASt) (sv sv' : List ASt) (z1 z2 : Int) (hC : CRep h S sv) (f0 : Nat → Int64) (ho : h 101 = cJ 1 f0) (hM : CT l mX7_append 10 1 6 [.ref (0), .int (iI (z1)), .int (iI (z2))] NN h (CX9 h S' sv' eIA)) : CT l mL_append 11 1 6 [.ref (0), .int (iI (z1)), .int (iI (z2)), .ref (101)] NN h (WQ h S' sv' 2 0) := by
  obtain ⟨g0, -⟩ := id hC
  refine CT.of (by decide) (Nat.le_of_ble_eq_true rfl) ?_
  refine g_al (al2 := [some (.ref (0)), some (.int (iI (z1))), some (.int (iI (z2))), some (.ref (101)), none]) rfl ?_
  refine g_aload_n (q := 1) rfl rfl dL_append_0 rfl ?_
  refine g_iconst (q := 2) dL_append_1 rfl ?_
  refine g_aload_n (q := 3) rfl rfl dL_append_2 rfl ?_
  refine g_iload_n (q := 4) rfl rfl dL_append_3 rfl ?_
  refine g_iload_n (q := 5) rfl rfl dL_append_4 rfl ?_
  refine g_HVx (d' := 10) (i := 0) (av := [.int (iI (z1)), .int (iI (z2))]) (st := [.int (iI (0)), .ref (101)]) (pre := [(0, 10, 13, 13)]) (suf := [(0, 10, 21, 17)]) (sp := 0) (ep := 10) (hp0 := 17) (ct := 15) (j := 4) (q2 := 19) kvL_7 hM (by decide) g0 rfl (Nat.le_of_ble_eq_true rfl) ⟨(Nat.le_of_ble_eq_true rfl), (Nat.le_of_ble_eq_true rfl)⟩ ⟨(Nat.le_of_ble_eq_true rfl), (Nat.le_of_ble_eq_true rfl)⟩ rfl dL_append_5 rfl (List.forall_mem_cons.mpr ⟨⟨by decide, _, tw_238, by decide +kernel⟩, fun _ hz => absurd hz List.not_mem_nil⟩) ⟨(Nat.le_of_ble_eq_true rfl), (Nat.le_of_ble_eq_true rfl)⟩ (by decide) tw_239 (by decide +kernel) (Or.inr ⟨dL_append_17, rfl⟩) (Nat.le_of_ble_eq_true rfl) rfl (fun h1 hp => ?_)
  obtain ⟨p1, p2⟩ := hp
  show G l noX mL_append 11 1 6 (WQ h S' sv' 2 0) 1 6 19 [some (.ref (0)), some (.int (iI (z1))), some (.int (iI (z2))), some (.ref (101)), none] [] NN h1
  refine g_iconst (q := 20) dL_append_19 rfl ?_
  exact g_ireturn (fun z => NN_f z) (Nat.le_of_ble_eq_true rfl) (Nat.le_of_ble_eq_true rfl) dL_append_20 rfl (wP_in ⟨rfl, p1, ⟨f0, (p2 101 (by decide)).trans ho, fun z => absurd z (by decide)⟩, fun j a b => p2 j a⟩)
set_option maxRecDepth 4000 in
theorem x3_L_append (l : Launch) (h : EHp) (S S' : ASt) (sv sv' : List ASt) (z1 z2 : Int) (hC : CRep h S sv) (f0 : Nat → Int64) (ho : h 101 = cJ 1 f0) (hM : CT l mX7_append 10 1 6 [.ref (0), .int (iI (z1)), .int (iI (z2))] NN h (CX9 h S' sv' eIS)) : CT l mL_append 11 1 6 [.ref (0), .int (iI (z1)), .int (iI (z2)), .ref (101)] NN h (WQ h S' sv' 3 0) := by
  obtain ⟨g0, -⟩ := id hC
  refine CT.of (by decide) (Nat.le_of_ble_eq_true rfl) ?_
  refine g_al (al2 := [some (.ref (0)), some (.int (iI (z1))), some (.int (iI (z2))), some (.ref (101)), none]) rfl ?_
  refine g_aload_n (q := 1) rfl rfl dL_append_0 rfl ?_
  refine g_iconst (q := 2) dL_append_1 rfl ?_
  refine g_aload_n (q := 3) rfl rfl dL_append_2 rfl ?_
  refine g_iload_n (q := 4) rfl rfl dL_append_3 rfl ?_
  refine g_iload_n (q := 5) rfl rfl dL_append_4 rfl ?_
  refine g_HVx (d' := 10) (i := 0) (av := [.int (iI (z1)), .int (iI (z2))]) (st := [.int (iI (0)), .ref (101)]) (pre := [(0, 10, 13, 13), (0, 10, 17, 15)]) (suf := []) (sp := 0) (ep := 10) (hp0 := 21) (ct := 17) (j := 4) (q2 := 23) kvL_7 hM (by decide) g0 rfl (Nat.le_of_ble_eq_true rfl) ⟨(Nat.le_of_ble_eq_true rfl), (Nat.le_of_ble_eq_true rfl)⟩ ⟨(Nat.le_of_ble_eq_true rfl), (Nat.le_of_ble_eq_true rfl)⟩ rfl dL_append_5 rfl (List.forall_mem_cons.mpr ⟨⟨by decide, _, tw_238, by decide +kernel⟩, List.forall_mem_cons.mpr ⟨⟨by decide, _, tw_239, by decide +kernel⟩, fun _ hz => absurd hz List.not_mem_nil⟩⟩) ⟨(Nat.le_of_ble_eq_true rfl), (Nat.le_of_ble_eq_true rfl)⟩ (by decide) tw_240 (by decide +kernel) (Or.inr ⟨dL_append_21, rfl⟩) (Nat.le_of_ble_eq_true rfl) rfl (fun h1 hp => ?_)
  obtain ⟨p1, p2⟩ := hp
  show G l noX mL_append 11 1 6 (WQ h S' sv' 3 0) 1 6 23 [some (.ref (0)), some (.int (iI (z1))), some (.int (iI (z2))), some (.ref (101)), none] [] NN h1
  refine g_iconst (q := 24) dL_append_23 rfl ?_
  exact g_ireturn (fun z => NN_f z) (Nat.le_of_ble_eq_true rfl) (Nat.le_of_ble_eq_true rfl) dL_append_24 rfl (wP_in ⟨rfl, p1, ⟨f0, (p2 101 (by decide)).trans ho, fun z => absurd z (by decide)⟩, fun j a b => p2 j a⟩)
set_option maxRecDepth 4000 in
theorem o_L_appendRange (l : Launch) (h : EHp) (S S' : ASt) (sv sv' : List ASt) (z1 z2 z3 z4 : Int) (hC : CRep h S sv) (f0 : Nat → Int64) (ho : h 101 = cJ 1 f0) (v0 : Int) (hM : CT l mX7_appendRange 9 0 0 [.ref (0), .int (iI (z1)), .int (iI (z2)), .int (iI (z3)), .int (iI (z4))] NN h (CQ h S' sv' v0)) : CT l mL_appendRange 10 1 6 [.ref (0), .int (iI (z1)), .int (iI (z2)), .int (iI (z3)), .int (iI (z4)), .ref (101)] NN h (WQ h S' sv' 0 v0) := by
  obtain ⟨g0, -⟩ := id hC
  refine CT.of (by decide) (Nat.le_of_ble_eq_true rfl) ?_
  refine g_al (al2 := [some (.ref (0)), some (.int (iI (z1))), some (.int (iI (z2))), some (.int (iI (z3))), some (.int (iI (z4))), some (.ref (101)), none]) rfl ?_
  refine g_aload (q := 2) rfl dL_appendRange_0 rfl ?_
  refine g_iconst (q := 3) dL_appendRange_2 rfl ?_
  refine g_aload_n (q := 4) rfl rfl dL_appendRange_3 rfl ?_
  refine g_iload_n (q := 5) rfl rfl dL_appendRange_4 rfl ?_
  refine g_iload_n (q := 6) rfl rfl dL_appendRange_5 rfl ?_
  refine g_iload_n (q := 7) rfl rfl dL_appendRange_6 rfl ?_
  refine g_iload (q := 9) rfl dL_appendRange_7 rfl ?_
  refine g_HVw (q := 12) (d' := 9) (i := 0) (av := [.int (iI (z1)), .int (iI (z2)), .int (iI (z3)), .int (iI (z4))]) (st := [.int (iI (0)), .ref (101)]) kvL_19 hM (by decide) g0 rfl (Nat.le_of_ble_eq_true rfl) ⟨(Nat.le_of_ble_eq_true rfl), (Nat.le_of_ble_eq_true rfl)⟩ ⟨(Nat.le_of_ble_eq_true rfl), (Nat.le_of_ble_eq_true rfl)⟩ rfl dL_appendRange_9 rfl (fun v h1 hp => ?_)
  obtain ⟨rfl, p1, p2⟩ := hp
  have ho1 : h1 101 = _ := (p2 101 (by decide)).trans ho
  refine g_i2l (q := 13) dL_appendRange_12 rfl ?_
  refine g_lastore (q := 14) (by decide) ho1 (by decide) (by decide) (by decide) dL_appendRange_13 rfl ?_
  refine hp_in (fun hh1 ehh1 => ?_)
  have fc2 : hh1 101 = cJ 1 (vp_updL f0 (0:Int).toNat ((iI v0).toInt64)) := by rw [ehh1]; exact ueh_s
  refine g_goto (q := 29) dL_appendRange_14 rfl ?_
  refine g_iconst (q := 30) dL_appendRange_29 rfl ?_
  exact g_ireturn (fun z => NN_f z) (Nat.le_of_ble_eq_true rfl) (Nat.le_of_ble_eq_true rfl) dL_appendRange_30 rfl (wP_in ⟨rfl, p1.cells (fun j hj => by rw [ehh1, ueh_n (by omega)]), ⟨_, fc2, fun _ => vp_updL_0⟩, fun j a b => by rw [ehh1, ueh_n b]; exact p2 j a⟩)
set_option maxRecDepth 4000 in
theorem x1_L_appendRange (l : Launch) (h : EHp) (S S' : ASt) (sv sv' : List ASt) (z1 z2 z3 z4 : Int) (hC : CRep h S sv) (f0 : Nat → Int64) (ho : h 101 = cJ 1 f0) (hM : CT l mX7_appendRange 9 1 6 [.ref (0), .int (iI (z1)), .int (iI (z2)), .int (iI (z3)), .int (iI (z4))] NN h (CX9 h S' sv' eIO)) : CT l mL_appendRange 10 1 6 [.ref (0), .int (iI (z1)), .int (iI (z2)), .int (iI (z3)), .int (iI (z4)), .ref (101)] NN h (WQ h S' sv' 1 0) := by
  obtain ⟨g0, -⟩ := id hC
  refine CT.of (by decide) (Nat.le_of_ble_eq_true rfl) ?_
  refine g_al (al2 := [some (.ref (0)), some (.int (iI (z1))), some (.int (iI (z2))), some (.int (iI (z3))), some (.int (iI (z4))), some (.ref (101)), none]) rfl ?_
  refine g_aload (q := 2) rfl dL_appendRange_0 rfl ?_
  refine g_iconst (q := 3) dL_appendRange_2 rfl ?_
  refine g_aload_n (q := 4) rfl rfl dL_appendRange_3 rfl ?_
  refine g_iload_n (q := 5) rfl rfl dL_appendRange_4 rfl ?_
  refine g_iload_n (q := 6) rfl rfl dL_appendRange_5 rfl ?_
  refine g_iload_n (q := 7) rfl rfl dL_appendRange_6 rfl ?_
  refine g_iload (q := 9) rfl dL_appendRange_7 rfl ?_
  refine g_HVx (d' := 9) (i := 0) (av := [.int (iI (z1)), .int (iI (z2)), .int (iI (z3)), .int (iI (z4))]) (st := [.int (iI (0)), .ref (101)]) (pre := []) (suf := [(0, 14, 21, 15), (0, 14, 25, 17)]) (sp := 0) (ep := 14) (hp0 := 17) (ct := 13) (j := 6) (q2 := 19) kvL_19 hM (by decide) g0 rfl (Nat.le_of_ble_eq_true rfl) ⟨(Nat.le_of_ble_eq_true rfl), (Nat.le_of_ble_eq_true rfl)⟩ ⟨(Nat.le_of_ble_eq_true rfl), (Nat.le_of_ble_eq_true rfl)⟩ rfl dL_appendRange_9 rfl (fun z hz => by cases hz) ⟨(Nat.le_of_ble_eq_true rfl), (Nat.le_of_ble_eq_true rfl)⟩ (by decide) tw_238 (by decide +kernel) (Or.inr ⟨dL_appendRange_17, rfl⟩) (Nat.le_of_ble_eq_true rfl) rfl (fun h1 hp => ?_)
  obtain ⟨p1, p2⟩ := hp
  show G l noX mL_appendRange 10 1 6 (WQ h S' sv' 1 0) 1 6 19 [some (.ref (0)), some (.int (iI (z1))), some (.int (iI (z2))), some (.int (iI (z3))), some (.int (iI (z4))), some (.ref (101)), none] [] NN h1
  refine g_iconst (q := 20) dL_appendRange_19 rfl ?_
  exact g_ireturn (fun z => NN_f z) (Nat.le_of_ble_eq_true rfl) (Nat.le_of_ble_eq_true rfl) dL_appendRange_20 rfl (wP_in ⟨rfl, p1, ⟨f0, (p2 101 (by decide)).trans ho, fun z => absurd z (by decide)⟩, fun j a b => p2 j a⟩)
set_option maxRecDepth 4000 in
theorem x2_L_appendRange (l : Launch) (h : EHp) (S S' : ASt) (sv sv' : List ASt) (z1 z2 z3 z4 : Int) (hC : CRep h S sv) (f0 : Nat → Int64) (ho : h 101 = cJ 1 f0) (hM : CT l mX7_appendRange 9 1 6 [.ref (0), .int (iI (z1)), .int (iI (z2)), .int (iI (z3)), .int (iI (z4))] NN h (CX9 h S' sv' eIA)) : CT l mL_appendRange 10 1 6 [.ref (0), .int (iI (z1)), .int (iI (z2)), .int (iI (z3)), .int (iI (z4)), .ref (101)] NN h (WQ h S' sv' 2 0) := by
  obtain ⟨g0, -⟩ := id hC
  refine CT.of (by decide) (Nat.le_of_ble_eq_true rfl) ?_
  refine g_al (al2 := [some (.ref (0)), some (.int (iI (z1))), some (.int (iI (z2))), some (.int (iI (z3))), some (.int (iI (z4))), some (.ref (101)), none]) rfl ?_
  refine g_aload (q := 2) rfl dL_appendRange_0 rfl ?_
  refine g_iconst (q := 3) dL_appendRange_2 rfl ?_
  refine g_aload_n (q := 4) rfl rfl dL_appendRange_3 rfl ?_
  refine g_iload_n (q := 5) rfl rfl dL_appendRange_4 rfl ?_
  refine g_iload_n (q := 6) rfl rfl dL_appendRange_5 rfl ?_
  refine g_iload_n (q := 7) rfl rfl dL_appendRange_6 rfl ?_
  refine g_iload (q := 9) rfl dL_appendRange_7 rfl ?_
  refine g_HVx (d' := 9) (i := 0) (av := [.int (iI (z1)), .int (iI (z2)), .int (iI (z3)), .int (iI (z4))]) (st := [.int (iI (0)), .ref (101)]) (pre := [(0, 14, 17, 13)]) (suf := [(0, 14, 25, 17)]) (sp := 0) (ep := 14) (hp0 := 21) (ct := 15) (j := 6) (q2 := 23) kvL_19 hM (by decide) g0 rfl (Nat.le_of_ble_eq_true rfl) ⟨(Nat.le_of_ble_eq_true rfl), (Nat.le_of_ble_eq_true rfl)⟩ ⟨(Nat.le_of_ble_eq_true rfl), (Nat.le_of_ble_eq_true rfl)⟩ rfl dL_appendRange_9 rfl (List.forall_mem_cons.mpr ⟨⟨by decide, _, tw_238, by decide +kernel⟩, fun _ hz => absurd hz List.not_mem_nil⟩) ⟨(Nat.le_of_ble_eq_true rfl), (Nat.le_of_ble_eq_true rfl)⟩ (by decide) tw_239 (by decide +kernel) (Or.inr ⟨dL_appendRange_21, rfl⟩) (Nat.le_of_ble_eq_true rfl) rfl (fun h1 hp => ?_)
  obtain ⟨p1, p2⟩ := hp
  show G l noX mL_appendRange 10 1 6 (WQ h S' sv' 2 0) 1 6 23 [some (.ref (0)), some (.int (iI (z1))), some (.int (iI (z2))), some (.int (iI (z3))), some (.int (iI (z4))), some (.ref (101)), none] [] NN h1
  refine g_iconst (q := 24) dL_appendRange_23 rfl ?_
  exact g_ireturn (fun z => NN_f z) (Nat.le_of_ble_eq_true rfl) (Nat.le_of_ble_eq_true rfl) dL_appendRange_24 rfl (wP_in ⟨rfl, p1, ⟨f0, (p2 101 (by decide)).trans ho, fun z => absurd z (by decide)⟩, fun j a b => p2 j a⟩)
set_option maxRecDepth 4000 in
theorem x3_L_appendRange (l : Launch) (h : EHp) (S S' : ASt) (sv sv' : List ASt) (z1 z2 z3 z4 : Int) (hC : CRep h S sv) (f0 : Nat → Int64) (ho : h 101 = cJ 1 f0) (hM : CT l mX7_appendRange 9 1 6 [.ref (0), .int (iI (z1)), .int (iI (z2)), .int (iI (z3)), .int (iI (z4))] NN h (CX9 h S' sv' eIS)) : CT l mL_appendRange 10 1 6 [.ref (0), .int (iI (z1)), .int (iI (z2)), .int (iI (z3)), .int (iI (z4)), .ref (101)] NN h (WQ h S' sv' 3 0) := by
  obtain ⟨g0, -⟩ := id hC
  refine CT.of (by decide) (Nat.le_of_ble_eq_true rfl) ?_
  refine g_al (al2 := [some (.ref (0)), some (.int (iI (z1))), some (.int (iI (z2))), some (.int (iI (z3))), some (.int (iI (z4))), some (.ref (101)), none]) rfl ?_
  refine g_aload (q := 2) rfl dL_appendRange_0 rfl ?_
  refine g_iconst (q := 3) dL_appendRange_2 rfl ?_
  refine g_aload_n (q := 4) rfl rfl dL_appendRange_3 rfl ?_
  refine g_iload_n (q := 5) rfl rfl dL_appendRange_4 rfl ?_
  refine g_iload_n (q := 6) rfl rfl dL_appendRange_5 rfl ?_
  refine g_iload_n (q := 7) rfl rfl dL_appendRange_6 rfl ?_
  refine g_iload (q := 9) rfl dL_appendRange_7 rfl ?_
  refine g_HVx (d' := 9) (i := 0) (av := [.int (iI (z1)), .int (iI (z2)), .int (iI (z3)), .int (iI (z4))]) (st := [.int (iI (0)), .ref (101)]) (pre := [(0, 14, 17, 13), (0, 14, 21, 15)]) (suf := []) (sp := 0) (ep := 14) (hp0 := 25) (ct := 17) (j := 6) (q2 := 27) kvL_19 hM (by decide) g0 rfl (Nat.le_of_ble_eq_true rfl) ⟨(Nat.le_of_ble_eq_true rfl), (Nat.le_of_ble_eq_true rfl)⟩ ⟨(Nat.le_of_ble_eq_true rfl), (Nat.le_of_ble_eq_true rfl)⟩ rfl dL_appendRange_9 rfl (List.forall_mem_cons.mpr ⟨⟨by decide, _, tw_238, by decide +kernel⟩, List.forall_mem_cons.mpr ⟨⟨by decide, _, tw_239, by decide +kernel⟩, fun _ hz => absurd hz List.not_mem_nil⟩⟩) ⟨(Nat.le_of_ble_eq_true rfl), (Nat.le_of_ble_eq_true rfl)⟩ (by decide) tw_240 (by decide +kernel) (Or.inr ⟨dL_appendRange_25, rfl⟩) (Nat.le_of_ble_eq_true rfl) rfl (fun h1 hp => ?_)
  obtain ⟨p1, p2⟩ := hp
  show G l noX mL_appendRange 10 1 6 (WQ h S' sv' 3 0) 1 6 27 [some (.ref (0)), some (.int (iI (z1))), some (.int (iI (z2))), some (.int (iI (z3))), some (.int (iI (z4))), some (.ref (101)), none] [] NN h1
  refine g_iconst (q := 28) dL_appendRange_27 rfl ?_
  exact g_ireturn (fun z => NN_f z) (Nat.le_of_ble_eq_true rfl) (Nat.le_of_ble_eq_true rfl) dL_appendRange_28 rfl (wP_in ⟨rfl, p1, ⟨f0, (p2 101 (by decide)).trans ho, fun z => absurd z (by decide)⟩, fun j a b => p2 j a⟩)
set_option maxRecDepth 4000 in
theorem o_L_clear (l : Launch) (h : EHp) (S S' : ASt) (sv sv' : List ASt) (z1 : Int) (hC : CRep h S sv) (f0 : Nat → Int64) (ho : h 101 = cJ 1 f0) (v0 : Int) (hM : CT l mX7_clear 9 0 0 [.ref (0), .int (iI (z1))] NN h (CQ h S' sv' v0)) : CT l mL_clear 10 1 6 [.ref (0), .int (iI (z1)), .ref (101)] NN h (WQ h S' sv' 0 v0) := by
  obtain ⟨g0, -⟩ := id hC
  refine CT.of (by decide) (Nat.le_of_ble_eq_true rfl) ?_
  refine g_al (al2 := [some (.ref (0)), some (.int (iI (z1))), some (.ref (101)), none]) rfl ?_
  refine g_aload_n (q := 1) rfl rfl dL_clear_0 rfl ?_
  refine g_iconst (q := 2) dL_clear_1 rfl ?_
  refine g_aload_n (q := 3) rfl rfl dL_clear_2 rfl ?_
  refine g_iload_n (q := 4) rfl rfl dL_clear_3 rfl ?_
  refine g_HVw (q := 7) (d' := 9) (i := 0) (av := [.int (iI (z1))]) (st := [.int (iI (0)), .ref (101)]) kvL_23 hM (by decide) g0 rfl (Nat.le_of_ble_eq_true rfl) ⟨(Nat.le_of_ble_eq_true rfl), (Nat.le_of_ble_eq_true rfl)⟩ ⟨(Nat.le_of_ble_eq_true rfl), (Nat.le_of_ble_eq_true rfl)⟩ rfl dL_clear_4 rfl (fun v h1 hp => ?_)
  obtain ⟨rfl, p1, p2⟩ := hp
  have ho1 : h1 101 = _ := (p2 101 (by decide)).trans ho
  refine g_i2l (q := 8) dL_clear_7 rfl ?_
  refine g_lastore (q := 9) (by decide) ho1 (by decide) (by decide) (by decide) dL_clear_8 rfl ?_
  refine hp_in (fun hh1 ehh1 => ?_)
  have fc2 : hh1 101 = cJ 1 (vp_updL f0 (0:Int).toNat ((iI v0).toInt64)) := by rw [ehh1]; exact ueh_s
  refine g_goto (q := 15) dL_clear_9 rfl ?_
  refine g_iconst (q := 16) dL_clear_15 rfl ?_
  exact g_ireturn (fun z => NN_f z) (Nat.le_of_ble_eq_true rfl) (Nat.le_of_ble_eq_true rfl) dL_clear_16 rfl (wP_in ⟨rfl, p1.cells (fun j hj => by rw [ehh1, ueh_n (by omega)]), ⟨_, fc2, fun _ => vp_updL_0⟩, fun j a b => by rw [ehh1, ueh_n b]; exact p2 j a⟩)
set_option maxRecDepth 4000 in
theorem x1_L_clear (l : Launch) (h : EHp) (S S' : ASt) (sv sv' : List ASt) (z1 : Int) (hC : CRep h S sv) (f0 : Nat → Int64) (ho : h 101 = cJ 1 f0) (hM : CT l mX7_clear 9 1 6 [.ref (0), .int (iI (z1))] NN h (CX9 h S' sv' eIO)) : CT l mL_clear 10 1 6 [.ref (0), .int (iI (z1)), .ref (101)] NN h (WQ h S' sv' 1 0) := by
  obtain ⟨g0, -⟩ := id hC
  refine CT.of (by decide) (Nat.le_of_ble_eq_true rfl) ?_
  refine g_al (al2 := [some (.ref (0)), some (.int (iI (z1))), some (.ref (101)), none]) rfl ?_
  refine g_aload_n (q := 1) rfl rfl dL_clear_0 rfl ?_
  refine g_iconst (q := 2) dL_clear_1 rfl ?_
  refine g_aload_n (q := 3) rfl rfl dL_clear_2 rfl ?_
  refine g_iload_n (q := 4) rfl rfl dL_clear_3 rfl ?_
  refine g_HVx (d' := 9) (i := 0) (av := [.int (iI (z1))]) (st := [.int (iI (0)), .ref (101)]) (pre := []) (suf := []) (sp := 0) (ep := 9) (hp0 := 12) (ct := 13) (j := 3) (q2 := 13) kvL_23 hM (by decide) g0 rfl (Nat.le_of_ble_eq_true rfl) ⟨(Nat.le_of_ble_eq_true rfl), (Nat.le_of_ble_eq_true rfl)⟩ ⟨(Nat.le_of_ble_eq_true rfl), (Nat.le_of_ble_eq_true rfl)⟩ rfl dL_clear_4 rfl (fun z hz => by cases hz) ⟨(Nat.le_of_ble_eq_true rfl), (Nat.le_of_ble_eq_true rfl)⟩ (by decide) tw_238 (by decide +kernel) (Or.inl ⟨3, rfl, dL_clear_12, rfl⟩) (Nat.le_of_ble_eq_true rfl) rfl (fun h1 hp => ?_)
  obtain ⟨p1, p2⟩ := hp
  show G l noX mL_clear 10 1 6 (WQ h S' sv' 1 0) 1 6 13 [some (.ref (0)), some (.int (iI (z1))), some (.ref (101)), none] [] NN h1
  refine g_iconst (q := 14) dL_clear_13 rfl ?_
  exact g_ireturn (fun z => NN_f z) (Nat.le_of_ble_eq_true rfl) (Nat.le_of_ble_eq_true rfl) dL_clear_14 rfl (wP_in ⟨rfl, p1, ⟨f0, (p2 101 (by decide)).trans ho, fun z => absurd z (by decide)⟩, fun j a b => p2 j a⟩)
set_option maxRecDepth 4000 in
theorem o_L_size (l : Launch) (h : EHp) (S S' : ASt) (sv sv' : List ASt) (z1 : Int) (hC : CRep h S sv) (f0 : Nat → Int64) (ho : h 101 = cJ 1 f0) (v0 : Int) (hM : CT l mX7_size 9 0 0 [.ref (0), .int (iI (z1))] NN h (CQ h S' sv' v0)) : CT l mL_size 10 1 6 [.ref (0), .int (iI (z1)), .ref (101)] NN h (WQ h S' sv' 0 v0) := by
  obtain ⟨g0, -⟩ := id hC
  refine CT.of (by decide) (Nat.le_of_ble_eq_true rfl) ?_
  refine g_al (al2 := [some (.ref (0)), some (.int (iI (z1))), some (.ref (101)), none]) rfl ?_
  refine g_aload_n (q := 1) rfl rfl dL_size_0 rfl ?_
  refine g_iconst (q := 2) dL_size_1 rfl ?_
  refine g_aload_n (q := 3) rfl rfl dL_size_2 rfl ?_
  refine g_iload_n (q := 4) rfl rfl dL_size_3 rfl ?_
  refine g_HVw (q := 7) (d' := 9) (i := 0) (av := [.int (iI (z1))]) (st := [.int (iI (0)), .ref (101)]) kvL_27 hM (by decide) g0 rfl (Nat.le_of_ble_eq_true rfl) ⟨(Nat.le_of_ble_eq_true rfl), (Nat.le_of_ble_eq_true rfl)⟩ ⟨(Nat.le_of_ble_eq_true rfl), (Nat.le_of_ble_eq_true rfl)⟩ rfl dL_size_4 rfl (fun v h1 hp => ?_)
  obtain ⟨rfl, p1, p2⟩ := hp
  have ho1 : h1 101 = _ := (p2 101 (by decide)).trans ho
  refine g_i2l (q := 8) dL_size_7 rfl ?_
  refine g_lastore (q := 9) (by decide) ho1 (by decide) (by decide) (by decide) dL_size_8 rfl ?_
  refine hp_in (fun hh1 ehh1 => ?_)
  have fc2 : hh1 101 = cJ 1 (vp_updL f0 (0:Int).toNat ((iI v0).toInt64)) := by rw [ehh1]; exact ueh_s
  refine g_goto (q := 15) dL_size_9 rfl ?_
  refine g_iconst (q := 16) dL_size_15 rfl ?_
  exact g_ireturn (fun z => NN_f z) (Nat.le_of_ble_eq_true rfl) (Nat.le_of_ble_eq_true rfl) dL_size_16 rfl (wP_in ⟨rfl, p1.cells (fun j hj => by rw [ehh1, ueh_n (by omega)]), ⟨_, fc2, fun _ => vp_updL_0⟩, fun j a b => by rw [ehh1, ueh_n b]; exact p2 j a⟩)
set_option maxRecDepth 4000 in
theorem x1_L_size (l : Launch) (h : EHp) (S S' : ASt) (sv sv' : List ASt) (z1 : Int) (hC : CRep h S sv) (f0 : Nat → Int64) (ho : h 101 = cJ 1 f0) (hM : CT l mX7_size 9 1 6 [.ref (0), .int (iI (z1))] NN h (CX9 h S' sv' eIO)) : CT l mL_size 10 1 6 [.ref (0), .int (iI (z1)), .ref (101)] NN h (WQ h S' sv' 1 0) := by
  obtain ⟨g0, -⟩ := id hC
  refine CT.of (by decide) (Nat.le_of_ble_eq_true rfl) ?_
  refine g_al (al2 := [some (.ref (0)), some (.int (iI (z1))), some (.ref (101)), none]) rfl ?_
  refine g_aload_n (q := 1) rfl rfl dL_size_0 rfl ?_
  refine g_iconst (q := 2) dL_size_1 rfl ?_
  refine g_aload_n (q := 3) rfl rfl dL_size_2 rfl ?_
  refine g_iload_n (q := 4) rfl rfl dL_size_3 rfl ?_
  refine g_HVx (d' := 9) (i := 0) (av := [.int (iI (z1))]) (st := [.int (iI (0)), .ref (101)]) (pre := []) (suf := []) (sp := 0) (ep := 9) (hp0 := 12) (ct := 13) (j := 3) (q2 := 13) kvL_27 hM (by decide) g0 rfl (Nat.le_of_ble_eq_true rfl) ⟨(Nat.le_of_ble_eq_true rfl), (Nat.le_of_ble_eq_true rfl)⟩ ⟨(Nat.le_of_ble_eq_true rfl), (Nat.le_of_ble_eq_true rfl)⟩ rfl dL_size_4 rfl (fun z hz => by cases hz) ⟨(Nat.le_of_ble_eq_true rfl), (Nat.le_of_ble_eq_true rfl)⟩ (by decide) tw_238 (by decide +kernel) (Or.inl ⟨3, rfl, dL_size_12, rfl⟩) (Nat.le_of_ble_eq_true rfl) rfl (fun h1 hp => ?_)
  obtain ⟨p1, p2⟩ := hp
  show G l noX mL_size 10 1 6 (WQ h S' sv' 1 0) 1 6 13 [some (.ref (0)), some (.int (iI (z1))), some (.ref (101)), none] [] NN h1
  refine g_iconst (q := 14) dL_size_13 rfl ?_
  exact g_ireturn (fun z => NN_f z) (Nat.le_of_ble_eq_true rfl) (Nat.le_of_ble_eq_true rfl) dL_size_14 rfl (wP_in ⟨rfl, p1, ⟨f0, (p2 101 (by decide)).trans ho, fun z => absurd z (by decide)⟩, fun j a b => p2 j a⟩)
set_option maxRecDepth 4000 in
theorem o_L_document (l : Launch) (h : EHp) (S S' : ASt) (sv sv' : List ASt) (z1 z2 : Int) (hC : CRep h S sv) (f0 : Nat → Int64) (ho : h 101 = cJ 1 f0) (v0 : Int) (hM : CT l mX7_document 9 0 0 [.ref (0), .int (iI (z1)), .int (iI (z2))] NN h (CQ h S' sv' v0)) : CT l mL_document 10 1 6 [.ref (0), .int (iI (z1)), .int (iI (z2)), .ref (101)] NN h (WQ h S' sv' 0 v0) := by
  obtain ⟨g0, -⟩ := id hC
  refine CT.of (by decide) (Nat.le_of_ble_eq_true rfl) ?_
  refine g_al (al2 := [some (.ref (0)), some (.int (iI (z1))), some (.int (iI (z2))), some (.ref (101)), none]) rfl ?_
  refine g_aload_n (q := 1) rfl rfl dL_document_0 rfl ?_
  refine g_iconst (q := 2) dL_document_1 rfl ?_
  refine g_aload_n (q := 3) rfl rfl dL_document_2 rfl ?_
  refine g_iload_n (q := 4) rfl rfl dL_document_3 rfl ?_
  refine g_iload_n (q := 5) rfl rfl dL_document_4 rfl ?_
  refine g_HVw (q := 8) (d' := 9) (i := 0) (av := [.int (iI (z1)), .int (iI (z2))]) (st := [.int (iI (0)), .ref (101)]) kvL_30 hM (by decide) g0 rfl (Nat.le_of_ble_eq_true rfl) ⟨(Nat.le_of_ble_eq_true rfl), (Nat.le_of_ble_eq_true rfl)⟩ ⟨(Nat.le_of_ble_eq_true rfl), (Nat.le_of_ble_eq_true rfl)⟩ rfl dL_document_5 rfl (fun v h1 hp => ?_)
  obtain ⟨rfl, p1, p2⟩ := hp
  have ho1 : h1 101 = _ := (p2 101 (by decide)).trans ho
  refine g_i2l (q := 9) dL_document_8 rfl ?_
  refine g_lastore (q := 10) (by decide) ho1 (by decide) (by decide) (by decide) dL_document_9 rfl ?_
  refine hp_in (fun hh1 ehh1 => ?_)
  have fc2 : hh1 101 = cJ 1 (vp_updL f0 (0:Int).toNat ((iI v0).toInt64)) := by rw [ehh1]; exact ueh_s
  refine g_goto (q := 17) dL_document_10 rfl ?_
  refine g_iconst (q := 18) dL_document_17 rfl ?_
  exact g_ireturn (fun z => NN_f z) (Nat.le_of_ble_eq_true rfl) (Nat.le_of_ble_eq_true rfl) dL_document_18 rfl (wP_in ⟨rfl, p1.cells (fun j hj => by rw [ehh1, ueh_n (by omega)]), ⟨_, fc2, fun _ => vp_updL_0⟩, fun j a b => by rw [ehh1, ueh_n b]; exact p2 j a⟩)
set_option maxRecDepth 4000 in
theorem x1_L_document (l : Launch) (h : EHp) (S S' : ASt) (sv sv' : List ASt) (z1 z2 : Int) (hC : CRep h S sv) (f0 : Nat → Int64) (ho : h 101 = cJ 1 f0) (hM : CT l mX7_document 9 1 6 [.ref (0), .int (iI (z1)), .int (iI (z2))] NN h (CX9 h S' sv' eIO)) : CT l mL_document 10 1 6 [.ref (0), .int (iI (z1)), .int (iI (z2)), .ref (101)] NN h (WQ h S' sv' 1 0) := by
  obtain ⟨g0, -⟩ := id hC
  refine CT.of (by decide) (Nat.le_of_ble_eq_true rfl) ?_
  refine g_al (al2 := [some (.ref (0)), some (.int (iI (z1))), some (.int (iI (z2))), some (.ref (101)), none]) rfl ?_
  refine g_aload_n (q := 1) rfl rfl dL_document_0 rfl ?_
  refine g_iconst (q := 2) dL_document_1 rfl ?_
  refine g_aload_n (q := 3) rfl rfl dL_document_2 rfl ?_
  refine g_iload_n (q := 4) rfl rfl dL_document_3 rfl ?_
  refine g_iload_n (q := 5) rfl rfl dL_document_4 rfl ?_
  refine g_HVx (d' := 9) (i := 0) (av := [.int (iI (z1)), .int (iI (z2))]) (st := [.int (iI (0)), .ref (101)]) (pre := []) (suf := []) (sp := 0) (ep := 10) (hp0 := 13) (ct := 13) (j := 4) (q2 := 15) kvL_30 hM (by decide) g0 rfl (Nat.le_of_ble_eq_true rfl) ⟨(Nat.le_of_ble_eq_true rfl), (Nat.le_of_ble_eq_true rfl)⟩ ⟨(Nat.le_of_ble_eq_true rfl), (Nat.le_of_ble_eq_true rfl)⟩ rfl dL_document_5 rfl (fun z hz => by cases hz) ⟨(Nat.le_of_ble_eq_true rfl), (Nat.le_of_ble_eq_true rfl)⟩ (by decide) tw_238 (by decide +kernel) (Or.inr ⟨dL_document_13, rfl⟩) (Nat.le_of_ble_eq_true rfl) rfl (fun h1 hp => ?_)
  obtain ⟨p1, p2⟩ := hp
  show G l noX mL_document 10 1 6 (WQ h S' sv' 1 0) 1 6 15 [some (.ref (0)), some (.int (iI (z1))), some (.int (iI (z2))), some (.ref (101)), none] [] NN h1
  refine g_iconst (q := 16) dL_document_15 rfl ?_
  exact g_ireturn (fun z => NN_f z) (Nat.le_of_ble_eq_true rfl) (Nat.le_of_ble_eq_true rfl) dL_document_16 rfl (wP_in ⟨rfl, p1, ⟨f0, (p2 101 (by decide)).trans ho, fun z => absurd z (by decide)⟩, fun j a b => p2 j a⟩)
set_option maxRecDepth 4000 in
theorem o_L_rank (l : Launch) (h : EHp) (S S' : ASt) (sv sv' : List ASt) (z1 z2 : Int) (hC : CRep h S sv) (f0 : Nat → Int64) (ho : h 101 = cJ 1 f0) (v0 : Int) (hM : CT l mX7_rank 9 0 0 [.ref (0), .int (iI (z1)), .int (iI (z2))] NN h (CQ h S' sv' v0)) : CT l mL_rank 10 1 6 [.ref (0), .int (iI (z1)), .int (iI (z2)), .ref (101)] NN h (WQ h S' sv' 0 v0) := by
  obtain ⟨g0, -⟩ := id hC
  refine CT.of (by decide) (Nat.le_of_ble_eq_true rfl) ?_
  refine g_al (al2 := [some (.ref (0)), some (.int (iI (z1))), some (.int (iI (z2))), some (.ref (101)), none]) rfl ?_
  refine g_aload_n (q := 1) rfl rfl dL_rank_0 rfl ?_
  refine g_iconst (q := 2) dL_rank_1 rfl ?_
  refine g_aload_n (q := 3) rfl rfl dL_rank_2 rfl ?_
  refine g_iload_n (q := 4) rfl rfl dL_rank_3 rfl ?_
  refine g_iload_n (q := 5) rfl rfl dL_rank_4 rfl ?_
  refine g_HVw (q := 8) (d' := 9) (i := 0) (av := [.int (iI (z1)), .int (iI (z2))]) (st := [.int (iI (0)), .ref (101)]) kvL_33 hM (by decide) g0 rfl (Nat.le_of_ble_eq_true rfl) ⟨(Nat.le_of_ble_eq_true rfl), (Nat.le_of_ble_eq_true rfl)⟩ ⟨(Nat.le_of_ble_eq_true rfl), (Nat.le_of_ble_eq_true rfl)⟩ rfl dL_rank_5 rfl (fun v h1 hp => ?_)
  obtain ⟨rfl, p1, p2⟩ := hp
  have ho1 : h1 101 = _ := (p2 101 (by decide)).trans ho
  refine g_i2l (q := 9) dL_rank_8 rfl ?_
  refine g_lastore (q := 10) (by decide) ho1 (by decide) (by decide) (by decide) dL_rank_9 rfl ?_
  refine hp_in (fun hh1 ehh1 => ?_)
  have fc2 : hh1 101 = cJ 1 (vp_updL f0 (0:Int).toNat ((iI v0).toInt64)) := by rw [ehh1]; exact ueh_s
  refine g_goto (q := 21) dL_rank_10 rfl ?_
  refine g_iconst (q := 22) dL_rank_21 rfl ?_
  exact g_ireturn (fun z => NN_f z) (Nat.le_of_ble_eq_true rfl) (Nat.le_of_ble_eq_true rfl) dL_rank_22 rfl (wP_in ⟨rfl, p1.cells (fun j hj => by rw [ehh1, ueh_n (by omega)]), ⟨_, fc2, fun _ => vp_updL_0⟩, fun j a b => by rw [ehh1, ueh_n b]; exact p2 j a⟩)
set_option maxRecDepth 4000 in
theorem x1_L_rank (l : Launch) (h : EHp) (S S' : ASt) (sv sv' : List ASt) (z1 z2 : Int) (hC : CRep h S sv) (f0 : Nat → Int64) (ho : h 101 = cJ 1 f0) (hM : CT l mX7_rank 9 1 6 [.ref (0), .int (iI (z1)), .int (iI (z2))] NN h (CX9 h S' sv' eIO)) : CT l mL_rank 10 1 6 [.ref (0), .int (iI (z1)), .int (iI (z2)), .ref (101)] NN h (WQ h S' sv' 1 0) := by
  obtain ⟨g0, -⟩ := id hC
  refine CT.of (by decide) (Nat.le_of_ble_eq_true rfl) ?_
  refine g_al (al2 := [some (.ref (0)), some (.int (iI (z1))), some (.int (iI (z2))), some (.ref (101)), none]) rfl ?_
  refine g_aload_n (q := 1) rfl rfl dL_rank_0 rfl ?_
  refine g_iconst (q := 2) dL_rank_1 rfl ?_
  refine g_aload_n (q := 3) rfl rfl dL_rank_2 rfl ?_
  refine g_iload_n (q := 4) rfl rfl dL_rank_3 rfl ?_
  refine g_iload_n (q := 5) rfl rfl dL_rank_4 rfl ?_
  refine g_HVx (d' := 9) (i := 0) (av := [.int (iI (z1)), .int (iI (z2))]) (st := [.int (iI (0)), .ref (101)]) (pre := []) (suf := [(0, 10, 17, 15)]) (sp := 0) (ep := 10) (hp0 := 13) (ct := 13) (j := 4) (q2 := 15) kvL_33 hM (by decide) g0 rfl (Nat.le_of_ble_eq_true rfl) ⟨(Nat.le_of_ble_eq_true rfl), (Nat.le_of_ble_eq_true rfl)⟩ ⟨(Nat.le_of_ble_eq_true rfl), (Nat.le_of_ble_eq_true rfl)⟩ rfl dL_rank_5 rfl (fun z hz => by cases hz) ⟨(Nat.le_of_ble_eq_true rfl), (Nat.le_of_ble_eq_true rfl)⟩ (by decide) tw_238 (by decide +kernel) (Or.inr ⟨dL_rank_13, rfl⟩) (Nat.le_of_ble_eq_true rfl) rfl (fun h1 hp => ?_)
  obtain ⟨p1, p2⟩ := hp
  show G l noX mL_rank 10 1 6 (WQ h S' sv' 1 0) 1 6 15 [some (.ref (0)), some (.int (iI (z1))), some (.int (iI (z2))), some (.ref (101)), none] [] NN h1
  refine g_iconst (q := 16) dL_rank_15 rfl ?_
  exact g_ireturn (fun z => NN_f z) (Nat.le_of_ble_eq_true rfl) (Nat.le_of_ble_eq_true rfl) dL_rank_16 rfl (wP_in ⟨rfl, p1, ⟨f0, (p2 101 (by decide)).trans ho, fun z => absurd z (by decide)⟩, fun j a b => p2 j a⟩)
set_option maxRecDepth 4000 in
theorem x2_L_rank (l : Launch) (h : EHp) (S S' : ASt) (sv sv' : List ASt) (z1 z2 : Int) (hC : CRep h S sv) (f0 : Nat → Int64) (ho : h 101 = cJ 1 f0) (hM : CT l mX7_rank 9 1 6 [.ref (0), .int (iI (z1)), .int (iI (z2))] NN h (CX9 h S' sv' eIA)) : CT l mL_rank 10 1 6 [.ref (0), .int (iI (z1)), .int (iI (z2)), .ref (101)] NN h (WQ h S' sv' 2 0) := by
  obtain ⟨g0, -⟩ := id hC
  refine CT.of (by decide) (Nat.le_of_ble_eq_true rfl) ?_
  refine g_al (al2 := [some (.ref (0)), some (.int (iI (z1))), some (.int (iI (z2))), some (.ref (101)), none]) rfl ?_
  refine g_aload_n (q := 1) rfl rfl dL_rank_0 rfl ?_
  refine g_iconst (q := 2) dL_rank_1 rfl ?_
  refine g_aload_n (q := 3) rfl rfl dL_rank_2 rfl ?_
  refine g_iload_n (q := 4) rfl rfl dL_rank_3 rfl ?_
  refine g_iload_n (q := 5) rfl rfl dL_rank_4 rfl ?_
  refine g_HVx (d' := 9) (i := 0) (av := [.int (iI (z1)), .int (iI (z2))]) (st := [.int (iI (0)), .ref (101)]) (pre := [(0, 10, 13, 13)]) (suf := []) (sp := 0) (ep := 10) (hp0 := 17) (ct := 15) (j := 4) (q2 := 19) kvL_33 hM (by decide) g0 rfl (Nat.le_of_ble_eq_true rfl) ⟨(Nat.le_of_ble_eq_true rfl), (Nat.le_of_ble_eq_true rfl)⟩ ⟨(Nat.le_of_ble_eq_true rfl), (Nat.le_of_ble_eq_true rfl)⟩ rfl dL_rank_5 rfl (List.forall_mem_cons.mpr ⟨⟨by decide, _, tw_238, by decide +kernel⟩, fun _ hz => absurd hz List.not_mem_nil⟩) ⟨(Nat.le_of_ble_eq_true rfl), (Nat.le_of_ble_eq_true rfl)⟩ (by decide) tw_239 (by decide +kernel) (Or.inr ⟨dL_rank_17, rfl⟩) (Nat.le_of_ble_eq_true rfl) rfl (fun h1 hp => ?_)
  obtain ⟨p1, p2⟩ := hp
  show G l noX mL_rank 10 1 6 (WQ h S' sv' 2 0) 1 6 19 [some (.ref (0)), some (.int (iI (z1))), some (.int (iI (z2))), some (.ref (101)), none] [] NN h1
  refine g_iconst (q := 20) dL_rank_19 rfl ?_
  exact g_ireturn (fun z => NN_f z) (Nat.le_of_ble_eq_true rfl) (Nat.le_of_ble_eq_true rfl) dL_rank_20 rfl (wP_in ⟨rfl, p1, ⟨f0, (p2 101 (by decide)).trans ho, fun z => absurd z (by decide)⟩, fun j a b => p2 j a⟩)
set_option maxRecDepth 4000 in
theorem o_L_partitions (l : Launch) (h : EHp) (S S' : ASt) (sv sv' : List ASt) (z1 : Int) (hC : CRep h S sv) (f0 : Nat → Int64) (ho : h 101 = cJ 1 f0) (v0 : Int) (hM : CT l mX7_partitions 9 0 0 [.ref (0), .int (iI (z1))] NN h (CQ h S' sv' v0)) : CT l mL_partitions 10 1 6 [.ref (0), .int (iI (z1)), .ref (101)] NN h (WQ h S' sv' 0 v0) := by
  obtain ⟨g0, -⟩ := id hC
  refine CT.of (by decide) (Nat.le_of_ble_eq_true rfl) ?_
  refine g_al (al2 := [some (.ref (0)), some (.int (iI (z1))), some (.ref (101)), none]) rfl ?_
  refine g_aload_n (q := 1) rfl rfl dL_partitions_0 rfl ?_
  refine g_iconst (q := 2) dL_partitions_1 rfl ?_
  refine g_aload_n (q := 3) rfl rfl dL_partitions_2 rfl ?_
  refine g_iload_n (q := 4) rfl rfl dL_partitions_3 rfl ?_
  refine g_HVw (q := 7) (d' := 9) (i := 0) (av := [.int (iI (z1))]) (st := [.int (iI (0)), .ref (101)]) kvL_36 hM (by decide) g0 rfl (Nat.le_of_ble_eq_true rfl) ⟨(Nat.le_of_ble_eq_true rfl), (Nat.le_of_ble_eq_true rfl)⟩ ⟨(Nat.le_of_ble_eq_true rfl), (Nat.le_of_ble_eq_true rfl)⟩ rfl dL_partitions_4 rfl (fun v h1 hp => ?_)
  obtain ⟨rfl, p1, p2⟩ := hp
  have ho1 : h1 101 = _ := (p2 101 (by decide)).trans ho
  refine g_i2l (q := 8) dL_partitions_7 rfl ?_
  refine g_lastore (q := 9) (by decide) ho1 (by decide) (by decide) (by decide) dL_partitions_8 rfl ?_
  refine hp_in (fun hh1 ehh1 => ?_)
  have fc2 : hh1 101 = cJ 1 (vp_updL f0 (0:Int).toNat ((iI v0).toInt64)) := by rw [ehh1]; exact ueh_s
  refine g_goto (q := 15) dL_partitions_9 rfl ?_
  refine g_iconst (q := 16) dL_partitions_15 rfl ?_
  exact g_ireturn (fun z => NN_f z) (Nat.le_of_ble_eq_true rfl) (Nat.le_of_ble_eq_true rfl) dL_partitions_16 rfl (wP_in ⟨rfl, p1.cells (fun j hj => by rw [ehh1, ueh_n (by omega)]), ⟨_, fc2, fun _ => vp_updL_0⟩, fun j a b => by rw [ehh1, ueh_n b]; exact p2 j a⟩)
set_option maxRecDepth 4000 in
theorem x1_L_partitions (l : Launch) (h : EHp) (S S' : ASt) (sv sv' : List ASt) (z1 : Int) (hC : CRep h S sv) (f0 : Nat → Int64) (ho : h 101 = cJ 1 f0) (hM : CT l mX7_partitions 9 1 6 [.ref (0), .int (iI (z1))] NN h (CX9 h S' sv' eIO)) : CT l mL_partitions 10 1 6 [.ref (0), .int (iI (z1)), .ref (101)] NN h (WQ h S' sv' 1 0) := by
  obtain ⟨g0, -⟩ := id hC
  refine CT.of (by decide) (Nat.le_of_ble_eq_true rfl) ?_
  refine g_al (al2 := [some (.ref (0)), some (.int (iI (z1))), some (.ref (101)), none]) rfl ?_
  refine g_aload_n (q := 1) rfl rfl dL_partitions_0 rfl ?_
  refine g_iconst (q := 2) dL_partitions_1 rfl ?_
  refine g_aload_n (q := 3) rfl rfl dL_partitions_2 rfl ?_
  refine g_iload_n (q := 4) rfl rfl dL_partitions_3 rfl ?_
  refine g_HVx (d' := 9) (i := 0) (av := [.int (iI (z1))]) (st := [.int (iI (0)), .ref (101)]) (pre := []) (suf := []) (sp := 0) (ep := 9) (hp0 := 12) (ct := 13) (j := 3) (q2 := 13) kvL_36 hM (by decide) g0 rfl (Nat.le_of_ble_eq_true rfl) ⟨(Nat.le_of_ble_eq_true rfl), (Nat.le_of_ble_eq_true rfl)⟩ ⟨(Nat.le_of_ble_eq_true rfl), (Nat.le_of_ble_eq_true rfl)⟩ rfl dL_partitions_4 rfl (fun z hz => by cases hz) ⟨(Nat.le_of_ble_eq_true rfl), (Nat.le_of_ble_eq_true rfl)⟩ (by decide) tw_238 (by decide +kernel) (Or.inl ⟨3, rfl, dL_partitions_12, rfl⟩) (Nat.le_of_ble_eq_true rfl) rfl (fun h1 hp => ?_)
  obtain ⟨p1, p2⟩ := hp
  show G l noX mL_partitions 10 1 6 (WQ h S' sv' 1 0) 1 6 13 [some (.ref (0)), some (.int (iI (z1))), some (.ref (101)), none] [] NN h1
  refine g_iconst (q := 14) dL_partitions_13 rfl ?_
  exact g_ireturn (fun z => NN_f z) (Nat.le_of_ble_eq_true rfl) (Nat.le_of_ble_eq_true rfl) dL_partitions_14 rfl (wP_in ⟨rfl, p1, ⟨f0, (p2 101 (by decide)).trans ho, fun z => absurd z (by decide)⟩, fun j a b => p2 j a⟩)
set_option maxRecDepth 4000 in
theorem o_L_partition (l : Launch) (h : EHp) (S S' : ASt) (sv sv' : List ASt) (z1 z2 z3 : Int) (hC : CRep h S sv) (f0 : Nat → Int64) (ho : h 101 = cJ 1 f0) (v0 : Int) (hM : CT l mX7_partition 9 0 0 [.ref (0), .int (iI (z1)), .int (iI (z2)), .int (iI (z3))] NN h (CQ h S' sv' v0)) : CT l mL_partition 10 1 6 [.ref (0), .int (iI (z1)), .int (iI (z2)), .int (iI (z3)), .ref (101)] NN h (WQ h S' sv' 0 v0) := by
  obtain ⟨g0, -⟩ := id hC
  refine CT.of (by decide) (Nat.le_of_ble_eq_true rfl) ?_
  refine g_al (al2 := [some (.ref (0)), some (.int (iI (z1))), some (.int (iI (z2))), some (.int (iI (z3))), some (.ref (101)), none]) rfl ?_
  refine g_aload (q := 2) rfl dL_partition_0 rfl ?_
  refine g_iconst (q := 3) dL_partition_2 rfl ?_
  refine g_aload_n (q := 4) rfl rfl dL_partition_3 rfl ?_
  refine g_iload_n (q := 5) rfl rfl dL_partition_4 rfl ?_
  refine g_iload_n (q := 6) rfl rfl dL_partition_5 rfl ?_
  refine g_iload_n (q := 7) rfl rfl dL_partition_6 rfl ?_
  refine g_HVw (q := 10) (d' := 9) (i := 0) (av := [.int (iI (z1)), .int (iI (z2)), .int (iI (z3))]) (st := [.int (iI (0)), .ref (101)]) kvL_39 hM (by decide) g0 rfl (Nat.le_of_ble_eq_true rfl) ⟨(Nat.le_of_ble_eq_true rfl), (Nat.le_of_ble_eq_true rfl)⟩ ⟨(Nat.le_of_ble_eq_true rfl), (Nat.le_of_ble_eq_true rfl)⟩ rfl dL_partition_7 rfl (fun v h1 hp => ?_)
  obtain ⟨rfl, p1, p2⟩ := hp
  have ho1 : h1 101 = _ := (p2 101 (by decide)).trans ho
  refine g_i2l (q := 11) dL_partition_10 rfl ?_
  refine g_lastore (q := 12) (by decide) ho1 (by decide) (by decide) (by decide) dL_partition_11 rfl ?_
  refine hp_in (fun hh1 ehh1 => ?_)
  have fc2 : hh1 101 = cJ 1 (vp_updL f0 (0:Int).toNat ((iI v0).toInt64)) := by rw [ehh1]; exact ueh_s
  refine g_goto (q := 23) dL_partition_12 rfl ?_
  refine g_iconst (q := 24) dL_partition_23 rfl ?_
  exact g_ireturn (fun z => NN_f z) (Nat.le_of_ble_eq_true rfl) (Nat.le_of_ble_eq_true rfl) dL_partition_24 rfl (wP_in ⟨rfl, p1.cells (fun j hj => by rw [ehh1, ueh_n (by omega)]), ⟨_, fc2, fun _ => vp_updL_0⟩, fun j a b => by rw [ehh1, ueh_n b]; exact p2 j a⟩)
set_option maxRecDepth 4000 in
theorem x1_L_partition (l : Launch) (h : EHp) (S S' : ASt) (sv sv' : List ASt) (z1 z2 z3 : Int) (hC : CRep h S sv) (f0 : Nat → Int64) (ho : h 101 = cJ 1 f0) (hM : CT l mX7_partition 9 1 6 [.ref (0), .int (iI (z1)), .int (iI (z2)), .int (iI (z3))] NN h (CX9 h S' sv' eIO)) : CT l mL_partition 10 1 6 [.ref (0), .int (iI (z1)), .int (iI (z2)), .int (iI (z3)), .ref (101)] NN h (WQ h S' sv' 1 0) := by
  obtain ⟨g0, -⟩ := id hC
  refine CT.of (by decide) (Nat.le_of_ble_eq_true rfl) ?_
  refine g_al (al2 := [some (.ref (0)), some (.int (iI (z1))), some (.int (iI (z2))), some (.int (iI (z3))), some (.ref (101)), none]) rfl ?_
  refine g_aload (q := 2) rfl dL_partition_0 rfl ?_
  refine g_iconst (q := 3) dL_partition_2 rfl ?_
  refine g_aload_n (q := 4) rfl rfl dL_partition_3 rfl ?_
  refine g_iload_n (q := 5) rfl rfl dL_partition_4 rfl ?_
  refine g_iload_n (q := 6) rfl rfl dL_partition_5 rfl ?_
  refine g_iload_n (q := 7) rfl rfl dL_partition_6 rfl ?_
  refine g_HVx (d' := 9) (i := 0) (av := [.int (iI (z1)), .int (iI (z2)), .int (iI (z3))]) (st := [.int (iI (0)), .ref (101)]) (pre := []) (suf := [(0, 12, 19, 15)]) (sp := 0) (ep := 12) (hp0 := 15) (ct := 13) (j := 5) (q2 := 17) kvL_39 hM (by decide) g0 rfl (Nat.le_of_ble_eq_true rfl) ⟨(Nat.le_of_ble_eq_true rfl), (Nat.le_of_ble_eq_true rfl)⟩ ⟨(Nat.le_of_ble_eq_true rfl), (Nat.le_of_ble_eq_true rfl)⟩ rfl dL_partition_7 rfl (fun z hz => by cases hz) ⟨(Nat.le_of_ble_eq_true rfl), (Nat.le_of_ble_eq_true rfl)⟩ (by decide) tw_238 (by decide +kernel) (Or.inr ⟨dL_partition_15, rfl⟩) (Nat.le_of_ble_eq_true rfl) rfl (fun h1 hp => ?_)
  obtain ⟨p1, p2⟩ := hp
  show G l noX mL_partition 10 1 6 (WQ h S' sv' 1 0) 1 6 17 [some (.ref (0)), some (.int (iI (z1))), some (.int (iI (z2))), some (.int (iI (z3))), some (.ref (101)), none] [] NN h1
  refine g_iconst (q := 18) dL_partition_17 rfl ?_
  exact g_ireturn (fun z => NN_f z) (Nat.le_of_ble_eq_true rfl) (Nat.le_of_ble_eq_true rfl) dL_partition_18 rfl (wP_in ⟨rfl, p1, ⟨f0, (p2 101 (by decide)).trans ho, fun z => absurd z (by decide)⟩, fun j a b => p2 j a⟩)
set_option maxRecDepth 4000 in
theorem x2_L_partition (l : Launch) (h : EHp) (S S' : ASt) (sv sv' : List ASt) (z1 z2 z3 : Int) (hC : CRep h S sv) (f0 : Nat → Int64) (ho : h 101 = cJ 1 f0) (hM : CT l mX7_partition 9 1 6 [.ref (0), .int (iI (z1)), .int (iI (z2)), .int (iI (z3))] NN h (CX9 h S' sv' eIA)) : CT l mL_partition 10 1 6 [.ref (0), .int (iI (z1)), .int (iI (z2)), .int (iI (z3)), .ref (101)] NN h (WQ h S' sv' 2 0) := by
  obtain ⟨g0, -⟩ := id hC
  refine CT.of (by decide) (Nat.le_of_ble_eq_true rfl) ?_
  refine g_al (al2 := [some (.ref (0)), some (.int (iI (z1))), some (.int (iI (z2))), some (.int (iI (z3))), some (.ref (101)), none]) rfl ?_
  refine g_aload (q := 2) rfl dL_partition_0 rfl ?_
  refine g_iconst (q := 3) dL_partition_2 rfl ?_
  refine g_aload_n (q := 4) rfl rfl dL_partition_3 rfl ?_
  refine g_iload_n (q := 5) rfl rfl dL_partition_4 rfl ?_
  refine g_iload_n (q := 6) rfl rfl dL_partition_5 rfl ?_
  refine g_iload_n (q := 7) rfl rfl dL_partition_6 rfl ?_
  refine g_HVx (d' := 9) (i := 0) (av := [.int (iI (z1)), .int (iI (z2)), .int (iI (z3))]) (st := [.int (iI (0)), .ref (101)]) (pre := [(0, 12, 15, 13)]) (suf := []) (sp := 0) (ep := 12) (hp0 := 19) (ct := 15) (j := 5) (q2 := 21) kvL_39 hM (by decide) g0 rfl (Nat.le_of_ble_eq_true rfl) ⟨(Nat.le_of_ble_eq_true rfl), (Nat.le_of_ble_eq_true rfl)⟩ ⟨(Nat.le_of_ble_eq_true rfl), (Nat.le_of_ble_eq_true rfl)⟩ rfl dL_partition_7 rfl (List.forall_mem_cons.mpr ⟨⟨by decide, _, tw_238, by decide +kernel⟩, fun _ hz => absurd hz List.not_mem_nil⟩) ⟨(Nat.le_of_ble_eq_true rfl), (Nat.le_of_ble_eq_true rfl)⟩ (by decide) tw_239 (by decide +kernel) (Or.inr ⟨dL_partition_19, rfl⟩) (Nat.le_of_ble_eq_true rfl) rfl (fun h1 hp => ?_)
  obtain ⟨p1, p2⟩ := hp
  show G l noX mL_partition 10 1 6 (WQ h S' sv' 2 0) 1 6 21 [some (.ref (0)), some (.int (iI (z1))), some (.int (iI (z2))), some (.int (iI (z3))), some (.ref (101)), none] [] NN h1
  refine g_iconst (q := 22) dL_partition_21 rfl ?_
  exact g_ireturn (fun z => NN_f z) (Nat.le_of_ble_eq_true rfl) (Nat.le_of_ble_eq_true rfl) dL_partition_22 rfl (wP_in ⟨rfl, p1, ⟨f0, (p2 101 (by decide)).trans ho, fun z => absurd z (by decide)⟩, fun j a b => p2 j a⟩)
set_option maxRecDepth 4000 in
theorem o_L_codeLength (l : Launch) (h : EHp) (S S' : ASt) (sv sv' : List ASt) (z1 : Int) (hC : CRep h S sv) (f0 : Nat → Int64) (ho : h 101 = cJ 1 f0) (v0 : Int) (hM : CT l mX7_codeLength 9 0 0 [.ref (0), .int (iI (z1))] NN h (CQ h S' sv' v0)) : CT l mL_codeLength 10 1 6 [.ref (0), .int (iI (z1)), .ref (101)] NN h (WQ h S' sv' 0 v0) := by
  obtain ⟨g0, -⟩ := id hC
  refine CT.of (by decide) (Nat.le_of_ble_eq_true rfl) ?_
  refine g_al (al2 := [some (.ref (0)), some (.int (iI (z1))), some (.ref (101)), none]) rfl ?_
  refine g_aload_n (q := 1) rfl rfl dL_codeLength_0 rfl ?_
  refine g_iconst (q := 2) dL_codeLength_1 rfl ?_
  refine g_aload_n (q := 3) rfl rfl dL_codeLength_2 rfl ?_
  refine g_iload_n (q := 4) rfl rfl dL_codeLength_3 rfl ?_
  refine g_HVw (q := 7) (d' := 9) (i := 0) (av := [.int (iI (z1))]) (st := [.int (iI (0)), .ref (101)]) kvL_43 hM (by decide) g0 rfl (Nat.le_of_ble_eq_true rfl) ⟨(Nat.le_of_ble_eq_true rfl), (Nat.le_of_ble_eq_true rfl)⟩ ⟨(Nat.le_of_ble_eq_true rfl), (Nat.le_of_ble_eq_true rfl)⟩ rfl dL_codeLength_4 rfl (fun v h1 hp => ?_)
  obtain ⟨rfl, p1, p2⟩ := hp
  have ho1 : h1 101 = _ := (p2 101 (by decide)).trans ho
  refine g_i2l (q := 8) dL_codeLength_7 rfl ?_
  refine g_lastore (q := 9) (by decide) ho1 (by decide) (by decide) (by decide) dL_codeLength_8 rfl ?_
  refine hp_in (fun hh1 ehh1 => ?_)
  have fc2 : hh1 101 = cJ 1 (vp_updL f0 (0:Int).toNat ((iI v0).toInt64)) := by rw [ehh1]; exact ueh_s
  refine g_goto (q := 15) dL_codeLength_9 rfl ?_
  refine g_iconst (q := 16) dL_codeLength_15 rfl ?_
  exact g_ireturn (fun z => NN_f z) (Nat.le_of_ble_eq_true rfl) (Nat.le_of_ble_eq_true rfl) dL_codeLength_16 rfl (wP_in ⟨rfl, p1.cells (fun j hj => by rw [ehh1, ueh_n (by omega)]), ⟨_, fc2, fun _ => vp_updL_0⟩, fun j a b => by rw [ehh1, ueh_n b]; exact p2 j a⟩)
set_option maxRecDepth 4000 in
theorem x1_L_codeLength (l : Launch) (h : EHp) (S S' : ASt) (sv sv' : List ASt) (z1 : Int) (hC : CRep h S sv) (f0 : Nat → Int64) (ho : h 101 = cJ 1 f0) (hM : CT l mX7_codeLength 9 1 6 [.ref (0), .int (iI (z1))] NN h (CX9 h S' sv' eIO)) : CT l mL_codeLength 10 1 6 [.ref (0), .int (iI (z1)), .ref (101)] NN h (WQ h S' sv' 1 0) := by
  obtain ⟨g0, -⟩ := id hC
  refine CT.of (by decide) (Nat.le_of_ble_eq_true rfl) ?_
  refine g_al (al2 := [some (.ref (0)), some (.int (iI (z1))), some (.ref (101)), none]) rfl ?_
  refine g_aload_n (q := 1) rfl rfl dL_codeLength_0 rfl ?_
  refine g_iconst (q := 2) dL_codeLength_1 rfl ?_
  refine g_aload_n (q := 3) rfl rfl dL_codeLength_2 rfl ?_
  refine g_iload_n (q := 4) rfl rfl dL_codeLength_3 rfl ?_
  refine g_HVx (d' := 9) (i := 0) (av := [.int (iI (z1))]) (st := [.int (iI (0)), .ref (101)]) (pre := []) (suf := []) (sp := 0) (ep := 9) (hp0 := 12) (ct := 13) (j := 3) (q2 := 13) kvL_43 hM (by decide) g0 rfl (Nat.le_of_ble_eq_true rfl) ⟨(Nat.le_of_ble_eq_true rfl), (Nat.le_of_ble_eq_true rfl)⟩ ⟨(Nat.le_of_ble_eq_true rfl), (Nat.le_of_ble_eq_true rfl)⟩ rfl dL_codeLength_4 rfl (fun z hz => by cases hz) ⟨(Nat.le_of_ble_eq_true rfl), (Nat.le_of_ble_eq_true rfl)⟩ (by decide) tw_238 (by decide +kernel) (Or.inl ⟨3, rfl, dL_codeLength_12, rfl⟩) (Nat.le_of_ble_eq_true rfl) rfl (fun h1 hp => ?_)
  obtain ⟨p1, p2⟩ := hp
  show G l noX mL_codeLength 10 1 6 (WQ h S' sv' 1 0) 1 6 13 [some (.ref (0)), some (.int (iI (z1))), some (.ref (101)), none] [] NN h1
  refine g_iconst (q := 14) dL_codeLength_13 rfl ?_
  exact g_ireturn (fun z => NN_f z) (Nat.le_of_ble_eq_true rfl) (Nat.le_of_ble_eq_true rfl) dL_codeLength_14 rfl (wP_in ⟨rfl, p1, ⟨f0, (p2 101 (by decide)).trans ho, fun z => absurd z (by decide)⟩, fun j a b => p2 j a⟩)
set_option maxRecDepth 4000 in
theorem o_L_codeBit (l : Launch) (h : EHp) (S S' : ASt) (sv sv' : List ASt) (z1 z2 : Int) (hC : CRep h S sv) (f0 : Nat → Int64) (ho : h 101 = cJ 1 f0) (v0 : Int) (hM : CT l mX7_codeBit 9 0 0 [.ref (0), .int (iI (z1)), .int (iI (z2))] NN h (CQ h S' sv' v0)) : CT l mL_codeBit 10 1 6 [.ref (0), .int (iI (z1)), .int (iI (z2)), .ref (101)] NN h (WQ h S' sv' 0 v0) := by
  obtain ⟨g0, -⟩ := id hC
  refine CT.of (by decide) (Nat.le_of_ble_eq_true rfl) ?_
  refine g_al (al2 := [some (.ref (0)), some (.int (iI (z1))), some (.int (iI (z2))), some (.ref (101)), none]) rfl ?_
  refine g_aload_n (q := 1) rfl rfl dL_codeBit_0 rfl ?_
  refine g_iconst (q := 2) dL_codeBit_1 rfl ?_
  refine g_aload_n (q := 3) rfl rfl dL_codeBit_2 rfl ?_
  refine g_iload_n (q := 4) rfl rfl dL_codeBit_3 rfl ?_
  refine g_iload_n (q := 5) rfl rfl dL_codeBit_4 rfl ?_
  refine g_HVw (q := 8) (d' := 9) (i := 0) (av := [.int (iI (z1)), .int (iI (z2))]) (st := [.int (iI (0)), .ref (101)]) kvL_46 hM (by decide) g0 rfl (Nat.le_of_ble_eq_true rfl) ⟨(Nat.le_of_ble_eq_true rfl), (Nat.le_of_ble_eq_true rfl)⟩ ⟨(Nat.le_of_ble_eq_true rfl), (Nat.le_of_ble_eq_true rfl)⟩ rfl dL_codeBit_5 rfl (fun v h1 hp => ?_)
  obtain ⟨rfl, p1, p2⟩ := hp
  have ho1 : h1 101 = _ := (p2 101 (by decide)).trans ho
  refine g_i2l (q := 9) dL_codeBit_8 rfl ?_
  refine g_lastore (q := 10) (by decide) ho1 (by decide) (by decide) (by decide) dL_codeBit_9 rfl ?_
  refine hp_in (fun hh1 ehh1 => ?_)
  have fc2 : hh1 101 = cJ 1 (vp_updL f0 (0:Int).toNat ((iI v0).toInt64)) := by rw [ehh1]; exact ueh_s
  refine g_goto (q := 17) dL_codeBit_10 rfl ?_
  refine g_iconst (q := 18) dL_codeBit_17 rfl ?_
  exact g_ireturn (fun z => NN_f z) (Nat.le_of_ble_eq_true rfl) (Nat.le_of_ble_eq_true rfl) dL_codeBit_18 rfl (wP_in ⟨rfl, p1.cells (fun j hj => by rw [ehh1, ueh_n (by omega)]), ⟨_, fc2, fun _ => vp_updL_0⟩, fun j a b => by rw [ehh1, ueh_n b]; exact p2 j a⟩)
set_option maxRecDepth 4000 in
theorem x1_L_codeBit (l : Launch) (h : EHp) (S S' : ASt) (sv sv' : List ASt) (z1 z2 : Int) (hC : CRep h S sv) (f0 : Nat → Int64) (ho : h 101 = cJ 1 f0) (hM : CT l mX7_codeBit 9 1 6 [.ref (0), .int (iI (z1)), .int (iI (z2))] NN h (CX9 h S' sv' eIO)) : CT l mL_codeBit 10 1 6 [.ref (0), .int (iI (z1)), .int (iI (z2)), .ref (101)] NN h (WQ h S' sv' 1 0) := by
  obtain ⟨g0, -⟩ := id hC
  refine CT.of (by decide) (Nat.le_of_ble_eq_true rfl) ?_
  refine g_al (al2 := [some (.ref (0)), some (.int (iI (z1))), some (.int (iI (z2))), some (.ref (101)), none]) rfl ?_
  refine g_aload_n (q := 1) rfl rfl dL_codeBit_0 rfl ?_
  refine g_iconst (q := 2) dL_codeBit_1 rfl ?_
  refine g_aload_n (q := 3) rfl rfl dL_codeBit_2 rfl ?_
  refine g_iload_n (q := 4) rfl rfl dL_codeBit_3 rfl ?_
  refine g_iload_n (q := 5) rfl rfl dL_codeBit_4 rfl ?_
  refine g_HVx (d' := 9) (i := 0) (av := [.int (iI (z1)), .int (iI (z2))]) (st := [.int (iI (0)), .ref (101)]) (pre := []) (suf := []) (sp := 0) (ep := 10) (hp0 := 13) (ct := 13) (j := 4) (q2 := 15) kvL_46 hM (by decide) g0 rfl (Nat.le_of_ble_eq_true rfl) ⟨(Nat.le_of_ble_eq_true rfl), (Nat.le_of_ble_eq_true rfl)⟩ ⟨(Nat.le_of_ble_eq_true rfl), (Nat.le_of_ble_eq_true rfl)⟩ rfl dL_codeBit_5 rfl (fun z hz => by cases hz) ⟨(Nat.le_of_ble_eq_true rfl), (Nat.le_of_ble_eq_true rfl)⟩ (by decide) tw_238 (by decide +kernel) (Or.inr ⟨dL_codeBit_13, rfl⟩) (Nat.le_of_ble_eq_true rfl) rfl (fun h1 hp => ?_)
  obtain ⟨p1, p2⟩ := hp
  show G l noX mL_codeBit 10 1 6 (WQ h S' sv' 1 0) 1 6 15 [some (.ref (0)), some (.int (iI (z1))), some (.int (iI (z2))), some (.ref (101)), none] [] NN h1
  refine g_iconst (q := 16) dL_codeBit_15 rfl ?_
  exact g_ireturn (fun z => NN_f z) (Nat.le_of_ble_eq_true rfl) (Nat.le_of_ble_eq_true rfl) dL_codeBit_16 rfl (wP_in ⟨rfl, p1, ⟨f0, (p2 101 (by decide)).trans ho, fun z => absurd z (by decide)⟩, fun j a b => p2 j a⟩)
set_option maxRecDepth 4000 in
theorem o_L_fixedLength (l : Launch) (h : EHp) (S S' : ASt) (sv sv' : List ASt) (z1 z2 : Int) (hC : CRep h S sv) (f0 : Nat → Int64) (ho : h 101 = cJ 1 f0) (v0 : Int) (hM : CT l mX7_fixedLength 9 0 0 [.ref (0), .int (iI (z1)), .int (iI (z2))] NN h (CQ h S' sv' v0)) : CT l mL_fixedLength 10 1 6 [.ref (0), .int (iI (z1)), .int (iI (z2)), .ref (101)] NN h (WQ h S' sv' 0 v0) := by
  obtain ⟨g0, -⟩ := id hC
  refine CT.of (by decide) (Nat.le_of_ble_eq_true rfl) ?_
  refine g_al (al2 := [some (.ref (0)), some (.int (iI (z1))), some (.int (iI (z2))), some (.ref (101)), none]) rfl ?_
  refine g_aload_n (q := 1) rfl rfl dL_fixedLength_0 rfl ?_
  refine g_iconst (q := 2) dL_fixedLength_1 rfl ?_
  refine g_aload_n (q := 3) rfl rfl dL_fixedLength_2 rfl ?_
  refine g_iload_n (q := 4) rfl rfl dL_fixedLength_3 rfl ?_
  refine g_iload_n (q := 5) rfl rfl dL_fixedLength_4 rfl ?_
  refine g_HVw (q := 8) (d' := 9) (i := 0) (av := [.int (iI (z1)), .int (iI (z2))]) (st := [.int (iI (0)), .ref (101)]) kvL_49 hM (by decide) g0 rfl (Nat.le_of_ble_eq_true rfl) ⟨(Nat.le_of_ble_eq_true rfl), (Nat.le_of_ble_eq_true rfl)⟩ ⟨(Nat.le_of_ble_eq_true rfl), (Nat.le_of_ble_eq_true rfl)⟩ rfl dL_fixedLength_5 rfl (fun v h1 hp => ?_)
  obtain ⟨rfl, p1, p2⟩ := hp
  have ho1 : h1 101 = _ := (p2 101 (by decide)).trans ho
  refine g_i2l (q := 9) dL_fixedLength_8 rfl ?_
  refine g_lastore (q := 10) (by decide) ho1 (by decide) (by decide) (by decide) dL_fixedLength_9 rfl ?_
  refine hp_in (fun hh1 ehh1 => ?_)
  have fc2 : hh1 101 = cJ 1 (vp_updL f0 (0:Int).toNat ((iI v0).toInt64)) := by rw [ehh1]; exact ueh_s
  refine g_goto (q := 21) dL_fixedLength_10 rfl ?_
  refine g_iconst (q := 22) dL_fixedLength_21 rfl ?_
  exact g_ireturn (fun z => NN_f z) (Nat.le_of_ble_eq_true rfl) (Nat.le_of_ble_eq_true rfl) dL_fixedLength_22 rfl (wP_in ⟨rfl, p1.cells (fun j hj => by rw [ehh1, ueh_n (by omega)]), ⟨_, fc2, fun _ => vp_updL_0⟩, fun j a b => by rw [ehh1, ueh_n b]; exact p2 j a⟩)
set_option maxRecDepth 4000 in
theorem x1_L_fixedLength (l : Launch) (h : EHp) (S S' : ASt) (sv sv' : List ASt) (z1 z2 : Int) (hC : CRep h S sv) (f0 : Nat → Int64) (ho : h 101 = cJ 1 f0) (hM : CT l mX7_fixedLength 9 1 6 [.ref (0), .int (iI (z1)), .int (iI (z2))] NN h (CX9 h S' sv' eIO)) : CT l mL_fixedLength 10 1 6 [.ref (0), .int (iI (z1)), .int (iI (z2)), .ref (101)] NN h (WQ h S' sv' 1 0) := by
  obtain ⟨g0, -⟩ := id hC
  refine CT.of (by decide) (Nat.le_of_ble_eq_true rfl) ?_
  refine g_al (al2 := [some (.ref (0)), some (.int (iI (z1))), some (.int (iI (z2))), some (.ref (101)), none]) rfl ?_
  refine g_aload_n (q := 1) rfl rfl dL_fixedLength_0 rfl ?_
  refine g_iconst (q := 2) dL_fixedLength_1 rfl ?_
  refine g_aload_n (q := 3) rfl rfl dL_fixedLength_2 rfl ?_
  refine g_iload_n (q := 4) rfl rfl dL_fixedLength_3 rfl ?_
  refine g_iload_n (q := 5) rfl rfl dL_fixedLength_4 rfl ?_
  refine g_HVx (d' := 9) (i := 0) (av := [.int (iI (z1)), .int (iI (z2))]) (st := [.int (iI (0)), .ref (101)]) (pre := []) (suf := [(0, 10, 17, 15)]) (sp := 0) (ep := 10) (hp0 := 13) (ct := 13) (j := 4) (q2 := 15) kvL_49 hM (by decide) g0 rfl (Nat.le_of_ble_eq_true rfl) ⟨(Nat.le_of_ble_eq_true rfl), (Nat.le_of_ble_eq_true rfl)⟩ ⟨(Nat.le_of_ble_eq_true rfl), (Nat.le_of_ble_eq_true rfl)⟩ rfl dL_fixedLength_5 rfl (fun z hz => by cases hz) ⟨(Nat.le_of_ble_eq_true rfl), (Nat.le_of_ble_eq_true rfl)⟩ (by decide) tw_238 (by decide +kernel) (Or.inr ⟨dL_fixedLength_13, rfl⟩) (Nat.le_of_ble_eq_true rfl) rfl (fun h1 hp => ?_)
  obtain ⟨p1, p2⟩ := hp
  show G l noX mL_fixedLength 10 1 6 (WQ h S' sv' 1 0) 1 6 15 [some (.ref (0)), some (.int (iI (z1))), some (.int (iI (z2))), some (.ref (101)), none] [] NN h1
  refine g_iconst (q := 16) dL_fixedLength_15 rfl ?_
  exact g_ireturn (fun z => NN_f z) (Nat.le_of_ble_eq_true rfl) (Nat.le_of_ble_eq_true rfl) dL_fixedLength_16 rfl (wP_in ⟨rfl, p1, ⟨f0, (p2 101 (by decide)).trans ho, fun z => absurd z (by decide)⟩, fun j a b => p2 j a⟩)
set_option maxRecDepth 4000 in
theorem x2_L_fixedLength (l : Launch) (h : EHp) (S S' : ASt) (sv sv' : List ASt) (z1 z2 : Int) (hC : CRep h S sv) (f0 : Nat → Int64) (ho : h 101 = cJ 1 f0) (hM : CT l mX7_fixedLength 9 1 6 [.ref (0), .int (iI (z1)), .int (iI (z2))] NN h (CX9 h S' sv' eIA)) : CT l mL_fixedLength 10 1 6 [.ref (0), .int (iI (z1)), .int (iI (z2)), .ref (101)] NN h (WQ h S' sv' 2 0) := by
  obtain ⟨g0, -⟩ := id hC
  refine CT.of (by decide) (Nat.le_of_ble_eq_true rfl) ?_
  refine g_al (al2 := [some (.ref (0)), some (.int (iI (z1))), some (.int (iI (z2))), some (.ref (101)), none]) rfl ?_
  refine g_aload_n (q := 1) rfl rfl dL_fixedLength_0 rfl ?_
  refine g_iconst (q := 2) dL_fixedLength_1 rfl ?_
  refine g_aload_n (q := 3) rfl rfl dL_fixedLength_2 rfl ?_
  refine g_iload_n (q := 4) rfl rfl dL_fixedLength_3 rfl ?_
  refine g_iload_n (q := 5) rfl rfl dL_fixedLength_4 rfl ?_
  refine g_HVx (d' := 9) (i := 0) (av := [.int (iI (z1)), .int (iI (z2))]) (st := [.int (iI (0)), .ref (101)]) (pre := [(0, 10, 13, 13)]) (suf := []) (sp := 0) (ep := 10) (hp0 := 17) (ct := 15) (j := 4) (q2 := 19) kvL_49 hM (by decide) g0 rfl (Nat.le_of_ble_eq_true rfl) ⟨(Nat.le_of_ble_eq_true rfl), (Nat.le_of_ble_eq_true rfl)⟩ ⟨(Nat.le_of_ble_eq_true rfl), (Nat.le_of_ble_eq_true rfl)⟩ rfl dL_fixedLength_5 rfl (List.forall_mem_cons.mpr ⟨⟨by decide, _, tw_238, by decide +kernel⟩, fun _ hz => absurd hz List.not_mem_nil⟩) ⟨(Nat.le_of_ble_eq_true rfl), (Nat.le_of_ble_eq_true rfl)⟩ (by decide) tw_239 (by decide +kernel) (Or.inr ⟨dL_fixedLength_17, rfl⟩) (Nat.le_of_ble_eq_true rfl) rfl (fun h1 hp => ?_)
  obtain ⟨p1, p2⟩ := hp
  show G l noX mL_fixedLength 10 1 6 (WQ h S' sv' 2 0) 1 6 19 [some (.ref (0)), some (.int (iI (z1))), some (.int (iI (z2))), some (.ref (101)), none] [] NN h1
  refine g_iconst (q := 20) dL_fixedLength_19 rfl ?_
  exact g_ireturn (fun z => NN_f z) (Nat.le_of_ble_eq_true rfl) (Nat.le_of_ble_eq_true rfl) dL_fixedLength_20 rfl (wP_in ⟨rfl, p1, ⟨f0, (p2 101 (by decide)).trans ho, fun z => absurd z (by decide)⟩, fun j a b => p2 j a⟩)
set_option maxRecDepth 4000 in
theorem o_L_bitsPerDocument (l : Launch) (h : EHp) (S S' : ASt) (sv sv' : List ASt) (z1 : Int) (hC : CRep h S sv) (f0 : Nat → UInt64) (ho : h 102 = cD 1 f0) (v0 : UInt64) (hM : CT l mX7_bitsPerDocument 9 0 0 [.ref (0), .int (iI (z1))] NN h (CQd h S' sv' v0)) : CT l mL_bitsPerDocument 10 1 6 [.ref (0), .int (iI (z1)), .ref (102)] NN h (WQd h S' sv' 0 v0) := by
  obtain ⟨g0, -⟩ := id hC
  refine CT.of (by decide) (Nat.le_of_ble_eq_true rfl) ?_
  refine g_al (al2 := [some (.ref (0)), some (.int (iI (z1))), some (.ref (102)), none]) rfl ?_
  refine g_aload_n (q := 1) rfl rfl dL_bitsPerDocument_0 rfl ?_
  refine g_iconst (q := 2) dL_bitsPerDocument_1 rfl ?_
  refine g_aload_n (q := 3) rfl rfl dL_bitsPerDocument_2 rfl ?_
  refine g_iload_n (q := 4) rfl rfl dL_bitsPerDocument_3 rfl ?_
  refine g_HVw (q := 7) (d' := 9) (i := 0) (av := [.int (iI (z1))]) (st := [.int (iI (0)), .ref (102)]) kvL_52 hM (by decide) g0 rfl (Nat.le_of_ble_eq_true rfl) ⟨(Nat.le_of_ble_eq_true rfl), (Nat.le_of_ble_eq_true rfl)⟩ ⟨(Nat.le_of_ble_eq_true rfl), (Nat.le_of_ble_eq_true rfl)⟩ rfl dL_bitsPerDocument_4 rfl (fun v h1 hp => ?_)
  obtain ⟨rfl, p1, p2⟩ := hp
  have ho1 : h1 102 = _ := (p2 102 (by decide)).trans ho
  refine g_dastore (q := 8) (by decide) ho1 (by decide) (by decide) (by decide) dL_bitsPerDocument_7 rfl ?_
  refine hp_in (fun hh1 ehh1 => ?_)
  have fc2 : hh1 102 = cD 1 (vf_upd f0 (0:Int).toNat v0) := by rw [ehh1]; exact ueh_s
  refine g_goto (q := 14) dL_bitsPerDocument_8 rfl ?_
  refine g_iconst (q := 15) dL_bitsPerDocument_14 rfl ?_
  exact g_ireturn (fun z => NN_f z) (Nat.le_of_ble_eq_true rfl) (Nat.le_of_ble_eq_true rfl) dL_bitsPerDocument_15 rfl (wP_in ⟨rfl, p1.cells (fun j hj => by rw [ehh1, ueh_n (by omega)]), ⟨_, fc2, fun _ => vf_upd_0⟩, fun j a b => by rw [ehh1, ueh_n b]; exact p2 j a⟩)
set_option maxRecDepth 4000 in
theorem x1_L_bitsPerDocument (l : Launch) (h : EHp) (S S' : ASt) (sv sv' : List ASt) (z1 : Int) (hC : CRep h S sv) (f0 : Nat → UInt64) (ho : h 102 = cD 1 f0) (hM : CT l mX7_bitsPerDocument 9 1 6 [.ref (0), .int (iI (z1))] NN h (CX9 h S' sv' eIO)) : CT l mL_bitsPerDocument 10 1 6 [.ref (0), .int (iI (z1)), .ref (102)] NN h (WQd h S' sv' 1 0) := by
  obtain ⟨g0, -⟩ := id hC
  refine CT.of (by decide) (Nat.le_of_ble_eq_true rfl) ?_
  refine g_al (al2 := [some (.ref (0)), some (.int (iI (z1))), some (.ref (102)), none]) rfl ?_
  refine g_aload_n (q := 1) rfl rfl dL_bitsPerDocument_0 rfl ?_
  refine g_iconst (q := 2) dL_bitsPerDocument_1 rfl ?_
  refine g_aload_n (q := 3) rfl rfl dL_bitsPerDocument_2 rfl ?_
  refine g_iload_n (q := 4) rfl rfl dL_bitsPerDocument_3 rfl ?_
  refine g_HVx (d' := 9) (i := 0) (av := [.int (iI (z1))]) (st := [.int (iI (0)), .ref (102)]) (pre := []) (suf := []) (sp := 0) (ep := 8) (hp0 := 11) (ct := 13) (j := 3) (q2 := 12) kvL_52 hM (by decide) g0 rfl (Nat.le_of_ble_eq_true rfl) ⟨(Nat.le_of_ble_eq_true rfl), (Nat.le_of_ble_eq_true rfl)⟩ ⟨(Nat.le_of_ble_eq_true rfl), (Nat.le_of_ble_eq_true rfl)⟩ rfl dL_bitsPerDocument_4 rfl (fun z hz => by cases hz) ⟨(Nat.le_of_ble_eq_true rfl), (Nat.le_of_ble_eq_true rfl)⟩ (by decide) tw_238 (by decide +kernel) (Or.inl ⟨3, rfl, dL_bitsPerDocument_11, rfl⟩) (Nat.le_of_ble_eq_true rfl) rfl (fun h1 hp => ?_)
  obtain ⟨p1, p2⟩ := hp
  show G l noX mL_bitsPerDocument 10 1 6 (WQd h S' sv' 1 0) 1 6 12 [some (.ref (0)), some (.int (iI (z1))), some (.ref (102)), none] [] NN h1
  refine g_iconst (q := 13) dL_bitsPerDocument_12 rfl ?_
  exact g_ireturn (fun z => NN_f z) (Nat.le_of_ble_eq_true rfl) (Nat.le_of_ble_eq_true rfl) dL_bitsPerDocument_13 rfl (wP_in ⟨rfl, p1, ⟨f0, (p2 102 (by decide)).trans ho, fun z => absurd z (by decide)⟩, fun j a b => p2 j a⟩)
set_option maxRecDepth 4000 in
theorem o_L_nextAtLeast (l : Launch) (h : EHp) (S S' : ASt) (sv sv' : List ASt) (z1 z2 : Int) (hC : CRep h S sv) (f0 : Nat → Int64) (ho : h 101 = cJ 1 f0) (v0 : Int) (hM : CT l mX7_nextAtLeast 8 0 0 [.ref (0), .int (iI (z1)), .int (iI (z2))] NN h (CQ h S' sv' v0)) : CT l mL_nextAtLeast 9 1 6 [.ref (0), .int (iI (z1)), .int (iI (z2)), .ref (101)] NN h (WQ h S' sv' 0 v0) := by
  obtain ⟨g0, -⟩ := id hC
  refine CT.of (by decide) (Nat.le_of_ble_eq_true rfl) ?_
  refine g_al (al2 := [some (.ref (0)), some (.int (iI (z1))), some (.int (iI (z2))), some (.ref (101)), none]) rfl ?_
  refine g_aload_n (q := 1) rfl rfl dL_nextAtLeast_0 rfl ?_
  refine g_iconst (q := 2) dL_nextAtLeast_1 rfl ?_
  refine g_aload_n (q := 3) rfl rfl dL_nextAtLeast_2 rfl ?_
  refine g_iload_n (q := 4) rfl rfl dL_nextAtLeast_3 rfl ?_
  refine g_iload_n (q := 5) rfl rfl dL_nextAtLeast_4 rfl ?_
  refine g_HVw (q := 8) (d' := 8) (i := 0) (av := [.int (iI (z1)), .int (iI (z2))]) (st := [.int (iI (0)), .ref (101)]) kvL_56 hM (by decide) g0 rfl (Nat.le_of_ble_eq_true rfl) ⟨(Nat.le_of_ble_eq_true rfl), (Nat.le_of_ble_eq_true rfl)⟩ ⟨(Nat.le_of_ble_eq_true rfl), (Nat.le_of_ble_eq_true rfl)⟩ rfl dL_nextAtLeast_5 rfl (fun v h1 hp => ?_)
  obtain ⟨rfl, p1, p2⟩ := hp
  have ho1 : h1 101 = _ := (p2 101 (by decide)).trans ho
  refine g_i2l (q := 9) dL_nextAtLeast_8 rfl ?_
  refine g_lastore (q := 10) (by decide) ho1 (by decide) (by decide) (by decide) dL_nextAtLeast_9 rfl ?_
  refine hp_in (fun hh1 ehh1 => ?_)
  have fc2 : hh1 101 = cJ 1 (vp_updL f0 (0:Int).toNat ((iI v0).toInt64)) := by rw [ehh1]; exact ueh_s
  refine g_goto (q := 21) dL_nextAtLeast_10 rfl ?_
  refine g_iconst (q := 22) dL_nextAtLeast_21 rfl ?_
  exact g_ireturn (fun z => NN_f z) (Nat.le_of_ble_eq_true rfl) (Nat.le_of_ble_eq_true rfl) dL_nextAtLeast_22 rfl (wP_in ⟨rfl, p1.cells (fun j hj => by rw [ehh1, ueh_n (by omega)]), ⟨_, fc2, fun _ => vp_updL_0⟩, fun j a b => by rw [ehh1, ueh_n b]; exact p2 j a⟩)
set_option maxRecDepth 4000 in
theorem x1_L_nextAtLeast (l : Launch) (h : EHp) (S S' : ASt) (sv sv' : List ASt) (z1 z2 : Int) (hC : CRep h S sv) (f0 : Nat → Int64) (ho : h 101 = cJ 1 f0) (hM : CT l mX7_nextAtLeast 8 1 6 [.ref (0), .int (iI (z1)), .int (iI (z2))] NN h (CX9 h S' sv' eIO)) : CT l mL_nextAtLeast 9 1 6 [.ref (0), .int (iI (z1)), .int (iI (z2)), .ref (101)] NN h (WQ h S' sv' 1 0) := by
  obtain ⟨g0, -⟩ := id hC
  refine CT.of (by decide) (Nat.le_of_ble_eq_true rfl) ?_
  refine g_al (al2 := [some (.ref (0)), some (.int (iI (z1))), some (.int (iI (z2))), some (.ref (101)), none]) rfl ?_
  refine g_aload_n (q := 1) rfl rfl dL_nextAtLeast_0 rfl ?_
  refine g_iconst (q := 2) dL_nextAtLeast_1 rfl ?_
  refine g_aload_n (q := 3) rfl rfl dL_nextAtLeast_2 rfl ?_
  refine g_iload_n (q := 4) rfl rfl dL_nextAtLeast_3 rfl ?_
  refine g_iload_n (q := 5) rfl rfl dL_nextAtLeast_4 rfl ?_
  refine g_HVx (d' := 8) (i := 0) (av := [.int (iI (z1)), .int (iI (z2))]) (st := [.int (iI (0)), .ref (101)]) (pre := []) (suf := [(0, 10, 17, 15)]) (sp := 0) (ep := 10) (hp0 := 13) (ct := 13) (j := 4) (q2 := 15) kvL_56 hM (by decide) g0 rfl (Nat.le_of_ble_eq_true rfl) ⟨(Nat.le_of_ble_eq_true rfl), (Nat.le_of_ble_eq_true rfl)⟩ ⟨(Nat.le_of_ble_eq_true rfl), (Nat.le_of_ble_eq_true rfl)⟩ rfl dL_nextAtLeast_5 rfl (fun z hz => by cases hz) ⟨(Nat.le_of_ble_eq_true rfl), (Nat.le_of_ble_eq_true rfl)⟩ (by decide) tw_238 (by decide +kernel) (Or.inr ⟨dL_nextAtLeast_13, rfl⟩) (Nat.le_of_ble_eq_true rfl) rfl (fun h1 hp => ?_)
  obtain ⟨p1, p2⟩ := hp
  show G l noX mL_nextAtLeast 9 1 6 (WQ h S' sv' 1 0) 1 6 15 [some (.ref (0)), some (.int (iI (z1))), some (.int (iI (z2))), some (.ref (101)), none] [] NN h1
  refine g_iconst (q := 16) dL_nextAtLeast_15 rfl ?_
  exact g_ireturn (fun z => NN_f z) (Nat.le_of_ble_eq_true rfl) (Nat.le_of_ble_eq_true rfl) dL_nextAtLeast_16 rfl (wP_in ⟨rfl, p1, ⟨f0, (p2 101 (by decide)).trans ho, fun z => absurd z (by decide)⟩, fun j a b => p2 j a⟩)
set_option maxRecDepth 4000 in
theorem x2_L_nextAtLeast (l : Launch) (h : EHp) (S S' : ASt) (sv sv' : List ASt) (z1 z2 : Int) (hC : CRep h S sv) (f0 : Nat → Int64) (ho : h 101 = cJ 1 f0) (hM : CT l mX7_nextAtLeast 8 1 6 [.ref (0), .int (iI (z1)), .int (iI (z2))] NN h (CX9 h S' sv' eIA)) : CT l mL_nextAtLeast 9 1 6 [.ref (0), .int (iI (z1)), .int (iI (z2)), .ref (101)] NN h (WQ h S' sv' 2 0) := by
  obtain ⟨g0, -⟩ := id hC
  refine CT.of (by decide) (Nat.le_of_ble_eq_true rfl) ?_
  refine g_al (al2 := [some (.ref (0)), some (.int (iI (z1))), some (.int (iI (z2))), some (.ref (101)), none]) rfl ?_
  refine g_aload_n (q := 1) rfl rfl dL_nextAtLeast_0 rfl ?_
  refine g_iconst (q := 2) dL_nextAtLeast_1 rfl ?_
  refine g_aload_n (q := 3) rfl rfl dL_nextAtLeast_2 rfl ?_
  refine g_iload_n (q := 4) rfl rfl dL_nextAtLeast_3 rfl ?_
  refine g_iload_n (q := 5) rfl rfl dL_nextAtLeast_4 rfl ?_
  refine g_HVx (d' := 8) (i := 0) (av := [.int (iI (z1)), .int (iI (z2))]) (st := [.int (iI (0)), .ref (101)]) (pre := [(0, 10, 13, 13)]) (suf := []) (sp := 0) (ep := 10) (hp0 := 17) (ct := 15) (j := 4) (q2 := 19) kvL_56 hM (by decide) g0 rfl (Nat.le_of_ble_eq_true rfl) ⟨(Nat.le_of_ble_eq_true rfl), (Nat.le_of_ble_eq_true rfl)⟩ ⟨(Nat.le_of_ble_eq_true rfl), (Nat.le_of_ble_eq_true rfl)⟩ rfl dL_nextAtLeast_5 rfl (List.forall_mem_cons.mpr ⟨⟨by decide, _, tw_238, by decide +kernel⟩, fun _ hz => absurd hz List.not_mem_nil⟩) ⟨(Nat.le_of_ble_eq_true rfl), (Nat.le_of_ble_eq_true rfl)⟩ (by decide) tw_239 (by decide +kernel) (Or.inr ⟨dL_nextAtLeast_17, rfl⟩) (Nat.le_of_ble_eq_true rfl) rfl (fun h1 hp => ?_)
  obtain ⟨p1, p2⟩ := hp
  show G l noX mL_nextAtLeast 9 1 6 (WQ h S' sv' 2 0) 1 6 19 [some (.ref (0)), some (.int (iI (z1))), some (.int (iI (z2))), some (.ref (101)), none] [] NN h1
  refine g_iconst (q := 20) dL_nextAtLeast_19 rfl ?_
  exact g_ireturn (fun z => NN_f z) (Nat.le_of_ble_eq_true rfl) (Nat.le_of_ble_eq_true rfl) dL_nextAtLeast_20 rfl (wP_in ⟨rfl, p1, ⟨f0, (p2 101 (by decide)).trans ho, fun z => absurd z (by decide)⟩, fun j a b => p2 j a⟩)
set_option maxRecDepth 4000 in
theorem o_L_countIntersection (l : Launch) (h : EHp) (S S' : ASt) (sv sv' : List ASt) (z1 : Int) (hC : CRep h S sv) (f0 : Nat → Int64) (ho : h 101 = cJ 1 f0) (v0 : Int) (hM : CT l mX7_countIntersection 8 0 0 [.ref (0), .int (iI (z1))] NN h (CQ h S' sv' v0)) : CT l mL_countIntersection 9 1 6 [.ref (0), .int (iI (z1)), .ref (101)] NN h (WQ h S' sv' 0 v0) := by
  obtain ⟨g0, -⟩ := id hC
  refine CT.of (by decide) (Nat.le_of_ble_eq_true rfl) ?_
  refine g_al (al2 := [some (.ref (0)), some (.int (iI (z1))), some (.ref (101)), none]) rfl ?_
  refine g_aload_n (q := 1) rfl rfl dL_countIntersection_0 rfl ?_
  refine g_iconst (q := 2) dL_countIntersection_1 rfl ?_
  refine g_aload_n (q := 3) rfl rfl dL_countIntersection_2 rfl ?_
  refine g_iload_n (q := 4) rfl rfl dL_countIntersection_3 rfl ?_
  refine g_HVw (q := 7) (d' := 8) (i := 0) (av := [.int (iI (z1))]) (st := [.int (iI (0)), .ref (101)]) kvL_59 hM (by decide) g0 rfl (Nat.le_of_ble_eq_true rfl) ⟨(Nat.le_of_ble_eq_true rfl), (Nat.le_of_ble_eq_true rfl)⟩ ⟨(Nat.le_of_ble_eq_true rfl), (Nat.le_of_ble_eq_true rfl)⟩ rfl dL_countIntersection_4 rfl (fun v h1 hp => ?_)
  obtain ⟨rfl, p1, p2⟩ := hp
  have ho1 : h1 101 = _ := (p2 101 (by decide)).trans ho
  refine g_i2l (q := 8) dL_countIntersection_7 rfl ?_
  refine g_lastore (q := 9) (by decide) ho1 (by decide) (by decide) (by decide) dL_countIntersection_8 rfl ?_
  refine hp_in (fun hh1 ehh1 => ?_)
  have fc2 : hh1 101 = cJ 1 (vp_updL f0 (0:Int).toNat ((iI v0).toInt64)) := by rw [ehh1]; exact ueh_s
  refine g_goto (q := 15) dL_countIntersection_9 rfl ?_
  refine g_iconst (q := 16) dL_countIntersection_15 rfl ?_
  exact g_ireturn (fun z => NN_f z) (Nat.le_of_ble_eq_true rfl) (Nat.le_of_ble_eq_true rfl) dL_countIntersection_16 rfl (wP_in ⟨rfl, p1.cells (fun j hj => by rw [ehh1, ueh_n (by omega)]), ⟨_, fc2, fun _ => vp_updL_0⟩, fun j a b => by rw [ehh1, ueh_n b]; exact p2 j a⟩)
set_option maxRecDepth 4000 in
theorem x1_L_countIntersection (l : Launch) (h : EHp) (S S' : ASt) (sv sv' : List ASt) (z1 : Int) (hC : CRep h S sv) (f0 : Nat → Int64) (ho : h 101 = cJ 1 f0) (hM : CT l mX7_countIntersection 8 1 6 [.ref (0), .int (iI (z1))] NN h (CX9 h S' sv' eIA)) : CT l mL_countIntersection 9 1 6 [.ref (0), .int (iI (z1)), .ref (101)] NN h (WQ h S' sv' 1 0) := by
  obtain ⟨g0, -⟩ := id hC
  refine CT.of (by decide) (Nat.le_of_ble_eq_true rfl) ?_
  refine g_al (al2 := [some (.ref (0)), some (.int (iI (z1))), some (.ref (101)), none]) rfl ?_
  refine g_aload_n (q := 1) rfl rfl dL_countIntersection_0 rfl ?_
  refine g_iconst (q := 2) dL_countIntersection_1 rfl ?_
  refine g_aload_n (q := 3) rfl rfl dL_countIntersection_2 rfl ?_
  refine g_iload_n (q := 4) rfl rfl dL_countIntersection_3 rfl ?_
  refine g_HVx (d' := 8) (i := 0) (av := [.int (iI (z1))]) (st := [.int (iI (0)), .ref (101)]) (pre := []) (suf := []) (sp := 0) (ep := 9) (hp0 := 12) (ct := 15) (j := 3) (q2 := 13) kvL_59 hM (by decide) g0 rfl (Nat.le_of_ble_eq_true rfl) ⟨(Nat.le_of_ble_eq_true rfl), (Nat.le_of_ble_eq_true rfl)⟩ ⟨(Nat.le_of_ble_eq_true rfl), (Nat.le_of_ble_eq_true rfl)⟩ rfl dL_countIntersection_4 rfl (fun z hz => by cases hz) ⟨(Nat.le_of_ble_eq_true rfl), (Nat.le_of_ble_eq_true rfl)⟩ (by decide) tw_239 (by decide +kernel) (Or.inl ⟨3, rfl, dL_countIntersection_12, rfl⟩) (Nat.le_of_ble_eq_true rfl) rfl (fun h1 hp => ?_)
  obtain ⟨p1, p2⟩ := hp
  show G l noX mL_countIntersection 9 1 6 (WQ h S' sv' 1 0) 1 6 13 [some (.ref (0)), some (.int (iI (z1))), some (.ref (101)), none] [] NN h1
  refine g_iconst (q := 14) dL_countIntersection_13 rfl ?_
  exact g_ireturn (fun z => NN_f z) (Nat.le_of_ble_eq_true rfl) (Nat.le_of_ble_eq_true rfl) dL_countIntersection_14 rfl (wP_in ⟨rfl, p1, ⟨f0, (p2 101 (by decide)).trans ho, fun z => absurd z (by decide)⟩, fun j a b => p2 j a⟩)
set_option maxRecDepth 4000 in
theorem o_L_intersect (l : Launch) (h : EHp) (S S' : ASt) (sv sv' : List ASt) (z1 z2 : Int) (hC : CRep h S sv) (f0 : Nat → Int64) (ho : h 101 = cJ 1 f0) (v0 : Int) (hM : CT l mX7_intersect 8 0 0 [.ref (0), .int (iI (z1)), .int (iI (z2))] NN h (CQ h S' sv' v0)) : CT l mL_intersect 9 1 6 [.ref (0), .int (iI (z1)), .int (iI (z2)), .ref (101)] NN h (WQ h S' sv' 0 v0) := by
  obtain ⟨g0, -⟩ := id hC
  refine CT.of (by decide) (Nat.le_of_ble_eq_true rfl) ?_
  refine g_al (al2 := [some (.ref (0)), some (.int (iI (z1))), some (.int (iI (z2))), some (.ref (101)), none]) rfl ?_
  refine g_aload_n (q := 1) rfl rfl dL_intersect_0 rfl ?_
  refine g_iconst (q := 2) dL_intersect_1 rfl ?_
  refine g_aload_n (q := 3) rfl rfl dL_intersect_2 rfl ?_
  refine g_iload_n (q := 4) rfl rfl dL_intersect_3 rfl ?_
  refine g_iload_n (q := 5) rfl rfl dL_intersect_4 rfl ?_
  refine g_HVw (q := 8) (d' := 8) (i := 0) (av := [.int (iI (z1)), .int (iI (z2))]) (st := [.int (iI (0)), .ref (101)]) kvL_62 hM (by decide) g0 rfl (Nat.le_of_ble_eq_true rfl) ⟨(Nat.le_of_ble_eq_true rfl), (Nat.le_of_ble_eq_true rfl)⟩ ⟨(Nat.le_of_ble_eq_true rfl), (Nat.le_of_ble_eq_true rfl)⟩ rfl dL_intersect_5 rfl (fun v h1 hp => ?_)
  obtain ⟨rfl, p1, p2⟩ := hp
  have ho1 : h1 101 = _ := (p2 101 (by decide)).trans ho
  refine g_i2l (q := 9) dL_intersect_8 rfl ?_
  refine g_lastore (q := 10) (by decide) ho1 (by decide) (by decide) (by decide) dL_intersect_9 rfl ?_
  refine hp_in (fun hh1 ehh1 => ?_)
  have fc2 : hh1 101 = cJ 1 (vp_updL f0 (0:Int).toNat ((iI v0).toInt64)) := by rw [ehh1]; exact ueh_s
  refine g_goto (q := 21) dL_intersect_10 rfl ?_
  refine g_iconst (q := 22) dL_intersect_21 rfl ?_
  exact g_ireturn (fun z => NN_f z) (Nat.le_of_ble_eq_true rfl) (Nat.le_of_ble_eq_true rfl) dL_intersect_22 rfl (wP_in ⟨rfl, p1.cells (fun j hj => by rw [ehh1, ueh_n (by omega)]), ⟨_, fc2, fun _ => vp_updL_0⟩, fun j a b => by rw [ehh1, ueh_n b]; exact p2 j a⟩)
set_option maxRecDepth 4000 in
theorem x1_L_intersect (l : Launch) (h : EHp) (S S' : ASt) (sv sv' : List ASt) (z1 z2 : Int) (hC : CRep h S sv) (f0 : Nat → Int64) (ho : h 101 = cJ 1 f0) (hM : CT l mX7_intersect 8 1 6 [.ref (0), .int (iI (z1)), .int (iI (z2))] NN h (CX9 h S' sv' eIA)) : CT l mL_intersect 9 1 6 [.ref (0), .int (iI (z1)), .int (iI (z2)), .ref (101)] NN h (WQ h S' sv' 1 0) := by
  obtain ⟨g0, -⟩ := id hC
  refine CT.of (by decide) (Nat.le_of_ble_eq_true rfl) ?_
  refine g_al (al2 := [some (.ref (0)), some (.int (iI (z1))), some (.int (iI (z2))), some (.ref (101)), none]) rfl ?_
  refine g_aload_n (q := 1) rfl rfl dL_intersect_0 rfl ?_
  refine g_iconst (q := 2) dL_intersect_1 rfl ?_
  refine g_aload_n (q := 3) rfl rfl dL_intersect_2 rfl ?_
  refine g_iload_n (q := 4) rfl rfl dL_intersect_3 rfl ?_
  refine g_iload_n (q := 5) rfl rfl dL_intersect_4 rfl ?_
  refine g_HVx (d' := 8) (i := 0) (av := [.int (iI (z1)), .int (iI (z2))]) (st := [.int (iI (0)), .ref (101)]) (pre := []) (suf := [(0, 10, 17, 13)]) (sp := 0) (ep := 10) (hp0 := 13) (ct := 15) (j := 4) (q2 := 15) kvL_62 hM (by decide) g0 rfl (Nat.le_of_ble_eq_true rfl) ⟨(Nat.le_of_ble_eq_true rfl), (Nat.le_of_ble_eq_true rfl)⟩ ⟨(Nat.le_of_ble_eq_true rfl), (Nat.le_of_ble_eq_true rfl)⟩ rfl dL_intersect_5 rfl (fun z hz => by cases hz) ⟨(Nat.le_of_ble_eq_true rfl), (Nat.le_of_ble_eq_true rfl)⟩ (by decide) tw_239 (by decide +kernel) (Or.inr ⟨dL_intersect_13, rfl⟩) (Nat.le_of_ble_eq_true rfl) rfl (fun h1 hp => ?_)
  obtain ⟨p1, p2⟩ := hp
  show G l noX mL_intersect 9 1 6 (WQ h S' sv' 1 0) 1 6 15 [some (.ref (0)), some (.int (iI (z1))), some (.int (iI (z2))), some (.ref (101)), none] [] NN h1
  refine g_iconst (q := 16) dL_intersect_15 rfl ?_
  exact g_ireturn (fun z => NN_f z) (Nat.le_of_ble_eq_true rfl) (Nat.le_of_ble_eq_true rfl) dL_intersect_16 rfl (wP_in ⟨rfl, p1, ⟨f0, (p2 101 (by decide)).trans ho, fun z => absurd z (by decide)⟩, fun j a b => p2 j a⟩)
set_option maxRecDepth 4000 in
theorem x2_L_intersect (l : Launch) (h : EHp) (S S' : ASt) (sv sv' : List ASt) (z1 z2 : Int) (hC : CRep h S sv) (f0 : Nat → Int64) (ho : h 101 = cJ 1 f0) (hM : CT l mX7_intersect 8 1 6 [.ref (0), .int (iI (z1)), .int (iI (z2))] NN h (CX9 h S' sv' eIO)) : CT l mL_intersect 9 1 6 [.ref (0), .int (iI (z1)), .int (iI (z2)), .ref (101)] NN h (WQ h S' sv' 2 0) := by
  obtain ⟨g0, -⟩ := id hC
  refine CT.of (by decide) (Nat.le_of_ble_eq_true rfl) ?_
  refine g_al (al2 := [some (.ref (0)), some (.int (iI (z1))), some (.int (iI (z2))), some (.ref (101)), none]) rfl ?_
  refine g_aload_n (q := 1) rfl rfl dL_intersect_0 rfl ?_
  refine g_iconst (q := 2) dL_intersect_1 rfl ?_
  refine g_aload_n (q := 3) rfl rfl dL_intersect_2 rfl ?_
  refine g_iload_n (q := 4) rfl rfl dL_intersect_3 rfl ?_
  refine g_iload_n (q := 5) rfl rfl dL_intersect_4 rfl ?_
  refine g_HVx (d' := 8) (i := 0) (av := [.int (iI (z1)), .int (iI (z2))]) (st := [.int (iI (0)), .ref (101)]) (pre := [(0, 10, 13, 15)]) (suf := []) (sp := 0) (ep := 10) (hp0 := 17) (ct := 13) (j := 4) (q2 := 19) kvL_62 hM (by decide) g0 rfl (Nat.le_of_ble_eq_true rfl) ⟨(Nat.le_of_ble_eq_true rfl), (Nat.le_of_ble_eq_true rfl)⟩ ⟨(Nat.le_of_ble_eq_true rfl), (Nat.le_of_ble_eq_true rfl)⟩ rfl dL_intersect_5 rfl (List.forall_mem_cons.mpr ⟨⟨by decide, _, tw_239, by decide +kernel⟩, fun _ hz => absurd hz List.not_mem_nil⟩) ⟨(Nat.le_of_ble_eq_true rfl), (Nat.le_of_ble_eq_true rfl)⟩ (by decide) tw_238 (by decide +kernel) (Or.inr ⟨dL_intersect_17, rfl⟩) (Nat.le_of_ble_eq_true rfl) rfl (fun h1 hp => ?_)
  obtain ⟨p1, p2⟩ := hp
  show G l noX mL_intersect 9 1 6 (WQ h S' sv' 2 0) 1 6 19 [some (.ref (0)), some (.int (iI (z1))), some (.int (iI (z2))), some (.ref (101)), none] [] NN h1
  refine g_iconst (q := 20) dL_intersect_19 rfl ?_
  exact g_ireturn (fun z => NN_f z) (Nat.le_of_ble_eq_true rfl) (Nat.le_of_ble_eq_true rfl) dL_intersect_20 rfl (wP_in ⟨rfl, p1, ⟨f0, (p2 101 (by decide)).trans ho, fun z => absurd z (by decide)⟩, fun j a b => p2 j a⟩)
set_option maxRecDepth 4000 in
theorem o_L_unite (l : Launch) (h : EHp) (S S' : ASt) (sv sv' : List ASt) (z1 z2 z3 : Int) (hC : CRep h S sv) (f0 : Nat → Int64) (ho : h 101 = cJ 1 f0) (v0 : Int) (hM : CT l mX7_unite 9 0 0 [.ref (0), .int (iI (z1)), .int (iI (z2)), .int (iI (z3))] NN h (CQ h S' sv' v0)) : CT l mL_unite 10 1 6 [.ref (0), .int (iI (z1)), .int (iI (z2)), .int (iI (z3)), .ref (101)] NN h (WQ h S' sv' 0 v0) := by
  obtain ⟨g0, -⟩ := id hC
  refine CT.of (by decide) (Nat.le_of_ble_eq_true rfl) ?_
  refine g_al (al2 := [some (.ref (0)), some (.int (iI (z1))), some (.int (iI (z2))), some (.int (iI (z3))), some (.ref (101)), none]) rfl ?_
  refine g_aload (q := 2) rfl dL_unite_0 rfl ?_
  refine g_iconst (q := 3) dL_unite_2 rfl ?_
  refine g_aload_n (q := 4) rfl rfl dL_unite_3 rfl ?_
  refine g_iload_n (q := 5) rfl rfl dL_unite_4 rfl ?_
  refine g_iload_n (q := 6) rfl rfl dL_unite_5 rfl ?_
  refine g_iload_n (q := 7) rfl rfl dL_unite_6 rfl ?_
  refine g_HVw (q := 10) (d' := 9) (i := 0) (av := [.int (iI (z1)), .int (iI (z2)), .int (iI (z3))]) (st := [.int (iI (0)), .ref (101)]) kvL_65 hM (by decide) g0 rfl (Nat.le_of_ble_eq_true rfl) ⟨(Nat.le_of_ble_eq_true rfl), (Nat.le_of_ble_eq_true rfl)⟩ ⟨(Nat.le_of_ble_eq_true rfl), (Nat.le_of_ble_eq_true rfl)⟩ rfl dL_unite_7 rfl (fun v h1 hp => ?_)
  obtain ⟨rfl, p1, p2⟩ := hp
  have ho1 : h1 101 = _ := (p2 101 (by decide)).trans ho
  refine g_i2l (q := 11) dL_unite_10 rfl ?_
  refine g_lastore (q := 12) (by decide) ho1 (by decide) (by decide) (by decide) dL_unite_11 rfl ?_
  refine hp_in (fun hh1 ehh1 => ?_)
  have fc2 : hh1 101 = cJ 1 (vp_updL f0 (0:Int).toNat ((iI v0).toInt64)) := by rw [ehh1]; exact ueh_s
  refine g_goto (q := 23) dL_unite_12 rfl ?_
  refine g_iconst (q := 24) dL_unite_23 rfl ?_
  exact g_ireturn (fun z => NN_f z) (Nat.le_of_ble_eq_true rfl) (Nat.le_of_ble_eq_true rfl) dL_unite_24 rfl (wP_in ⟨rfl, p1.cells (fun j hj => by rw [ehh1, ueh_n (by omega)]), ⟨_, fc2, fun _ => vp_updL_0⟩, fun j a b => by rw [ehh1, ueh_n b]; exact p2 j a⟩)
set_option maxRecDepth 4000 in
theorem x1_L_unite (l : Launch) (h : EHp) (S S' : ASt) (sv sv' : List ASt) (z1 z2 z3 : Int) (hC : CRep h S sv) (f0 : Nat → Int64) (ho : h 101 = cJ 1 f0) (hM : CT l mX7_unite 9 1 6 [.ref (0), .int (iI (z1)), .int (iI (z2)), .int (iI (z3))] NN h (CX9 h S' sv' eIO)) : CT l mL_unite 10 1 6 [.ref (0), .int (iI (z1)), .int (iI (z2)), .int (iI (z3)), .ref (101)] NN h (WQ h S' sv' 1 0) := by
  obtain ⟨g0, -⟩ := id hC
  refine CT.of (by decide) (Nat.le_of_ble_eq_true rfl) ?_
  refine g_al (al2 := [some (.ref (0)), some (.int (iI (z1))), some (.int (iI (z2))), some (.int (iI (z3))), some (.ref (101)), none]) rfl ?_
  refine g_aload (q := 2) rfl dL_unite_0 rfl ?_
  refine g_iconst (q := 3) dL_unite_2 rfl ?_
  refine g_aload_n (q := 4) rfl rfl dL_unite_3 rfl ?_
  refine g_iload_n (q := 5) rfl rfl dL_unite_4 rfl ?_
  refine g_iload_n (q := 6) rfl rfl dL_unite_5 rfl ?_
  refine g_iload_n (q := 7) rfl rfl dL_unite_6 rfl ?_
  refine g_HVx (d' := 9) (i := 0) (av := [.int (iI (z1)), .int (iI (z2)), .int (iI (z3))]) (st := [.int (iI (0)), .ref (101)]) (pre := []) (suf := [(0, 12, 19, 17)]) (sp := 0) (ep := 12) (hp0 := 15) (ct := 13) (j := 5) (q2 := 17) kvL_65 hM (by decide) g0 rfl (Nat.le_of_ble_eq_true rfl) ⟨(Nat.le_of_ble_eq_true rfl), (Nat.le_of_ble_eq_true rfl)⟩ ⟨(Nat.le_of_ble_eq_true rfl), (Nat.le_of_ble_eq_true rfl)⟩ rfl dL_unite_7 rfl (fun z hz => by cases hz) ⟨(Nat.le_of_ble_eq_true rfl), (Nat.le_of_ble_eq_true rfl)⟩ (by decide) tw_238 (by decide +kernel) (Or.inr ⟨dL_unite_15, rfl⟩) (Nat.le_of_ble_eq_true rfl) rfl (fun h1 hp => ?_)
  obtain ⟨p1, p2⟩ := hp
  show G l noX mL_unite 10 1 6 (WQ h S' sv' 1 0) 1 6 17 [some (.ref (0)), some (.int (iI (z1))), some (.int (iI (z2))), some (.int (iI (z3))), some (.ref (101)), none] [] NN h1
  refine g_iconst (q := 18) dL_unite_17 rfl ?_
  exact g_ireturn (fun z => NN_f z) (Nat.le_of_ble_eq_true rfl) (Nat.le_of_ble_eq_true rfl) dL_unite_18 rfl (wP_in ⟨rfl, p1, ⟨f0, (p2 101 (by decide)).trans ho, fun z => absurd z (by decide)⟩, fun j a b => p2 j a⟩)
set_option maxRecDepth 4000 in
theorem x2_L_unite (l : Launch) (h : EHp) (S S' : ASt) (sv sv' : List ASt) (z1 z2 z3 : Int) (hC : CRep h S sv) (f0 : Nat → Int64) (ho : h 101 = cJ 1 f0) (hM : CT l mX7_unite 9 1 6 [.ref (0), .int (iI (z1)), .int (iI (z2)), .int (iI (z3))] NN h (CX9 h S' sv' eIS)) : CT l mL_unite 10 1 6 [.ref (0), .int (iI (z1)), .int (iI (z2)), .int (iI (z3)), .ref (101)] NN h (WQ h S' sv' 2 0) := by
  obtain ⟨g0, -⟩ := id hC
  refine CT.of (by decide) (Nat.le_of_ble_eq_true rfl) ?_
  refine g_al (al2 := [some (.ref (0)), some (.int (iI (z1))), some (.int (iI (z2))), some (.int (iI (z3))), some (.ref (101)), none]) rfl ?_
  refine g_aload (q := 2) rfl dL_unite_0 rfl ?_
  refine g_iconst (q := 3) dL_unite_2 rfl ?_
  refine g_aload_n (q := 4) rfl rfl dL_unite_3 rfl ?_
  refine g_iload_n (q := 5) rfl rfl dL_unite_4 rfl ?_
  refine g_iload_n (q := 6) rfl rfl dL_unite_5 rfl ?_
  refine g_iload_n (q := 7) rfl rfl dL_unite_6 rfl ?_
  refine g_HVx (d' := 9) (i := 0) (av := [.int (iI (z1)), .int (iI (z2)), .int (iI (z3))]) (st := [.int (iI (0)), .ref (101)]) (pre := [(0, 12, 15, 13)]) (suf := []) (sp := 0) (ep := 12) (hp0 := 19) (ct := 17) (j := 5) (q2 := 21) kvL_65 hM (by decide) g0 rfl (Nat.le_of_ble_eq_true rfl) ⟨(Nat.le_of_ble_eq_true rfl), (Nat.le_of_ble_eq_true rfl)⟩ ⟨(Nat.le_of_ble_eq_true rfl), (Nat.le_of_ble_eq_true rfl)⟩ rfl dL_unite_7 rfl (List.forall_mem_cons.mpr ⟨⟨by decide, _, tw_238, by decide +kernel⟩, fun _ hz => absurd hz List.not_mem_nil⟩) ⟨(Nat.le_of_ble_eq_true rfl), (Nat.le_of_ble_eq_true rfl)⟩ (by decide) tw_240 (by decide +kernel) (Or.inr ⟨dL_unite_19, rfl⟩) (Nat.le_of_ble_eq_true rfl) rfl (fun h1 hp => ?_)
  obtain ⟨p1, p2⟩ := hp
  show G l noX mL_unite 10 1 6 (WQ h S' sv' 2 0) 1 6 21 [some (.ref (0)), some (.int (iI (z1))), some (.int (iI (z2))), some (.int (iI (z3))), some (.ref (101)), none] [] NN h1
  refine g_iconst (q := 22) dL_unite_21 rfl ?_
  exact g_ireturn (fun z => NN_f z) (Nat.le_of_ble_eq_true rfl) (Nat.le_of_ble_eq_true rfl) dL_unite_22 rfl (wP_in ⟨rfl, p1, ⟨f0, (p2 101 (by decide)).trans ho, fun z => absurd z (by decide)⟩, fun j a b => p2 j a⟩)
set_option maxRecDepth 4000 in
theorem o_L_subtract (l : Launch) (h : EHp) (S S' : ASt) (sv sv' : List ASt) (z1 z2 z3 : Int) (hC : CRep h S sv) (f0 : Nat → Int64) (ho : h 101 = cJ 1 f0) (v0 : Int) (hM : CT l mX7_subtract 9 0 0 [.ref (0), .int (iI (z1)), .int (iI (z2)), .int (iI (z3))] NN h (CQ h S' sv' v0)) : CT l mL_subtract 10 1 6 [.ref (0), .int (iI (z1)), .int (iI (z2)), .int (iI (z3)), .ref (101)] NN h (WQ h S' sv' 0 v0) := by
  obtain ⟨g0, -⟩ := id hC
  refine CT.of (by decide) (Nat.le_of_ble_eq_true rfl) ?_
  refine g_al (al2 := [some (.ref (0)), some (.int (iI (z1))), some (.int (iI (z2))), some (.int (iI (z3))), some (.ref (101)), none]) rfl ?_
  refine g_aload (q := 2) rfl dL_subtract_0 rfl ?_
  refine g_iconst (q := 3) dL_subtract_2 rfl ?_
  refine g_aload_n (q := 4) rfl rfl dL_subtract_3 rfl ?_
  refine g_iload_n (q := 5) rfl rfl dL_subtract_4 rfl ?_
  refine g_iload_n (q := 6) rfl rfl dL_subtract_5 rfl ?_
  refine g_iload_n (q := 7) rfl rfl dL_subtract_6 rfl ?_
  refine g_HVw (q := 10) (d' := 9) (i := 0) (av := [.int (iI (z1)), .int (iI (z2)), .int (iI (z3))]) (st := [.int (iI (0)), .ref (101)]) kvL_68 hM (by decide) g0 rfl (Nat.le_of_ble_eq_true rfl) ⟨(Nat.le_of_ble_eq_true rfl), (Nat.le_of_ble_eq_true rfl)⟩ ⟨(Nat.le_of_ble_eq_true rfl), (Nat.le_of_ble_eq_true rfl)⟩ rfl dL_subtract_7 rfl (fun v h1 hp => ?_)
  obtain ⟨rfl, p1, p2⟩ := hp
  have ho1 : h1 101 = _ := (p2 101 (by decide)).trans ho
  refine g_i2l (q := 11) dL_subtract_10 rfl ?_
  refine g_lastore (q := 12) (by decide) ho1 (by decide) (by decide) (by decide) dL_subtract_11 rfl ?_
  refine hp_in (fun hh1 ehh1 => ?_)
  have fc2 : hh1 101 = cJ 1 (vp_updL f0 (0:Int).toNat ((iI v0).toInt64)) := by rw [ehh1]; exact ueh_s
  refine g_goto (q := 19) dL_subtract_12 rfl ?_
  refine g_iconst (q := 20) dL_subtract_19 rfl ?_
  exact g_ireturn (fun z => NN_f z) (Nat.le_of_ble_eq_true rfl) (Nat.le_of_ble_eq_true rfl) dL_subtract_20 rfl (wP_in ⟨rfl, p1.cells (fun j hj => by rw [ehh1, ueh_n (by omega)]), ⟨_, fc2, fun _ => vp_updL_0⟩, fun j a b => by rw [ehh1, ueh_n b]; exact p2 j a⟩)
set_option maxRecDepth 4000 in
theorem x1_L_subtract (l : Launch) (h : EHp) (S S' : ASt) (sv sv' : List ASt) (z1 z2 z3 : Int) (hC : CRep h S sv) (f0 : Nat → Int64) (ho : h 101 = cJ 1 f0) (hM : CT l mX7_subtract 9 1 6 [.ref (0), .int (iI (z1)), .int (iI (z2)), .int (iI (z3))] NN h (CX9 h S' sv' eIO)) : CT l mL_subtract 10 1 6 [.ref (0), .int (iI (z1)), .int (iI (z2)), .int (iI (z3)), .ref (101)] NN h (WQ h S' sv' 1 0) := by
  obtain ⟨g0, -⟩ := id hC
  refine CT.of (by decide) (Nat.le_of_ble_eq_true rfl) ?_
  refine g_al (al2 := [some (.ref (0)), some (.int (iI (z1))), some (.int (iI (z2))), some (.int (iI (z3))), some (.ref (101)), none]) rfl ?_
  refine g_aload (q := 2) rfl dL_subtract_0 rfl ?_
  refine g_iconst (q := 3) dL_subtract_2 rfl ?_
  refine g_aload_n (q := 4) rfl rfl dL_subtract_3 rfl ?_
  refine g_iload_n (q := 5) rfl rfl dL_subtract_4 rfl ?_
  refine g_iload_n (q := 6) rfl rfl dL_subtract_5 rfl ?_
  refine g_iload_n (q := 7) rfl rfl dL_subtract_6 rfl ?_
  refine g_HVx (d' := 9) (i := 0) (av := [.int (iI (z1)), .int (iI (z2)), .int (iI (z3))]) (st := [.int (iI (0)), .ref (101)]) (pre := []) (suf := []) (sp := 0) (ep := 12) (hp0 := 15) (ct := 13) (j := 5) (q2 := 17) kvL_68 hM (by decide) g0 rfl (Nat.le_of_ble_eq_true rfl) ⟨(Nat.le_of_ble_eq_true rfl), (Nat.le_of_ble_eq_true rfl)⟩ ⟨(Nat.le_of_ble_eq_true rfl), (Nat.le_of_ble_eq_true rfl)⟩ rfl dL_subtract_7 rfl (fun z hz => by cases hz) ⟨(Nat.le_of_ble_eq_true rfl), (Nat.le_of_ble_eq_true rfl)⟩ (by decide) tw_238 (by decide +kernel) (Or.inr ⟨dL_subtract_15, rfl⟩) (Nat.le_of_ble_eq_true rfl) rfl (fun h1 hp => ?_)
  obtain ⟨p1, p2⟩ := hp
  show G l noX mL_subtract 10 1 6 (WQ h S' sv' 1 0) 1 6 17 [some (.ref (0)), some (.int (iI (z1))), some (.int (iI (z2))), some (.int (iI (z3))), some (.ref (101)), none] [] NN h1
  refine g_iconst (q := 18) dL_subtract_17 rfl ?_
  exact g_ireturn (fun z => NN_f z) (Nat.le_of_ble_eq_true rfl) (Nat.le_of_ble_eq_true rfl) dL_subtract_18 rfl (wP_in ⟨rfl, p1, ⟨f0, (p2 101 (by decide)).trans ho, fun z => absurd z (by decide)⟩, fun j a b => p2 j a⟩)
set_option maxRecDepth 4000 in
theorem o_L_setCapacity (l : Launch) (h : EHp) (S S' : ASt) (sv sv' : List ASt) (z1 : Int) (hC : CRep h S sv) (f0 : Nat → Int64) (ho : h 101 = cJ 1 f0) (v0 : Int) (hM : CT l mX7_setCapacity 7 0 0 [.ref (0), .int (iI (z1))] NN h (CQ h S' sv' v0)) : CT l mL_setCapacity 8 1 6 [.ref (0), .int (iI (z1)), .ref (101)] NN h (WQ h S' sv' 0 v0) := by
  obtain ⟨g0, -⟩ := id hC
  refine CT.of (by decide) (Nat.le_of_ble_eq_true rfl) ?_
  refine g_al (al2 := [some (.ref (0)), some (.int (iI (z1))), some (.ref (101)), none]) rfl ?_
  refine g_aload_n (q := 1) rfl rfl dL_setCapacity_0 rfl ?_
  refine g_iconst (q := 2) dL_setCapacity_1 rfl ?_
  refine g_aload_n (q := 3) rfl rfl dL_setCapacity_2 rfl ?_
  refine g_iload_n (q := 4) rfl rfl dL_setCapacity_3 rfl ?_
  refine g_HVw (q := 7) (d' := 7) (i := 0) (av := [.int (iI (z1))]) (st := [.int (iI (0)), .ref (101)]) kvL_71 hM (by decide) g0 rfl (Nat.le_of_ble_eq_true rfl) ⟨(Nat.le_of_ble_eq_true rfl), (Nat.le_of_ble_eq_true rfl)⟩ ⟨(Nat.le_of_ble_eq_true rfl), (Nat.le_of_ble_eq_true rfl)⟩ rfl dL_setCapacity_4 rfl (fun v h1 hp => ?_)
  obtain ⟨rfl, p1, p2⟩ := hp
  have ho1 : h1 101 = _ := (p2 101 (by decide)).trans ho
  refine g_i2l (q := 8) dL_setCapacity_7 rfl ?_
  refine g_lastore (q := 9) (by decide) ho1 (by decide) (by decide) (by decide) dL_setCapacity_8 rfl ?_
  refine hp_in (fun hh1 ehh1 => ?_)
  have fc2 : hh1 101 = cJ 1 (vp_updL f0 (0:Int).toNat ((iI v0).toInt64)) := by rw [ehh1]; exact ueh_s
  refine g_goto (q := 15) dL_setCapacity_9 rfl ?_
  refine g_iconst (q := 16) dL_setCapacity_15 rfl ?_
  exact g_ireturn (fun z => NN_f z) (Nat.le_of_ble_eq_true rfl) (Nat.le_of_ble_eq_true rfl) dL_setCapacity_16 rfl (wP_in ⟨rfl, p1.cells (fun j hj => by rw [ehh1, ueh_n (by omega)]), ⟨_, fc2, fun _ => vp_updL_0⟩, fun j a b => by rw [ehh1, ueh_n b]; exact p2 j a⟩)
set_option maxRecDepth 4000 in
theorem x1_L_setCapacity (l : Launch) (h : EHp) (S S' : ASt) (sv sv' : List ASt) (z1 : Int) (hC : CRep h S sv) (f0 : Nat → Int64) (ho : h 101 = cJ 1 f0) (hM : CT l mX7_setCapacity 7 1 6 [.ref (0), .int (iI (z1))] NN h (CX9 h S' sv' eIA)) : CT l mL_setCapacity 8 1 6 [.ref (0), .int (iI (z1)), .ref (101)] NN h (WQ h S' sv' 1 0) := by
  obtain ⟨g0, -⟩ := id hC
  refine CT.of (by decide) (Nat.le_of_ble_eq_true rfl) ?_
  refine g_al (al2 := [some (.ref (0)), some (.int (iI (z1))), some (.ref (101)), none]) rfl ?_
  refine g_aload_n (q := 1) rfl rfl dL_setCapacity_0 rfl ?_
  refine g_iconst (q := 2) dL_setCapacity_1 rfl ?_
  refine g_aload_n (q := 3) rfl rfl dL_setCapacity_2 rfl ?_
  refine g_iload_n (q := 4) rfl rfl dL_setCapacity_3 rfl ?_
  refine g_HVx (d' := 7) (i := 0) (av := [.int (iI (z1))]) (st := [.int (iI (0)), .ref (101)]) (pre := []) (suf := []) (sp := 0) (ep := 9) (hp0 := 12) (ct := 15) (j := 3) (q2 := 13) kvL_71 hM (by decide) g0 rfl (Nat.le_of_ble_eq_true rfl) ⟨(Nat.le_of_ble_eq_true rfl), (Nat.le_of_ble_eq_true rfl)⟩ ⟨(Nat.le_of_ble_eq_true rfl), (Nat.le_of_ble_eq_true rfl)⟩ rfl dL_setCapacity_4 rfl (fun z hz => by cases hz) ⟨(Nat.le_of_ble_eq_true rfl), (Nat.le_of_ble_eq_true rfl)⟩ (by decide) tw_239 (by decide +kernel) (Or.inl ⟨3, rfl, dL_setCapacity_12, rfl⟩) (Nat.le_of_ble_eq_true rfl) rfl (fun h1 hp => ?_)
  obtain ⟨p1, p2⟩ := hp
  show G l noX mL_setCapacity 8 1 6 (WQ h S' sv' 1 0) 1 6 13 [some (.ref (0)), some (.int (iI (z1))), some (.ref (101)), none] [] NN h1
  refine g_iconst (q := 14) dL_setCapacity_13 rfl ?_
  exact g_ireturn (fun z => NN_f z) (Nat.le_of_ble_eq_true rfl) (Nat.le_of_ble_eq_true rfl) dL_setCapacity_14 rfl (wP_in ⟨rfl, p1, ⟨f0, (p2 101 (by decide)).trans ho, fun z => absurd z (by decide)⟩, fun j a b => p2 j a⟩)
set_option maxRecDepth 4000 in
theorem o_L_cachedAt (l : Launch) (h : EHp) (S S' : ASt) (sv sv' : List ASt) (z1 : Int) (hC : CRep h S sv) (f0 : Nat → Int64) (ho : h 101 = cJ 1 f0) (v0 : Int) (hM : CT l mX7_cachedAt 7 0 0 [.ref (0), .int (iI (z1))] NN h (CQ h S' sv' v0)) : CT l mL_cachedAt 8 1 6 [.ref (0), .int (iI (z1)), .ref (101)] NN h (WQ h S' sv' 0 v0) := by
  obtain ⟨g0, -⟩ := id hC
  refine CT.of (by decide) (Nat.le_of_ble_eq_true rfl) ?_
  refine g_al (al2 := [some (.ref (0)), some (.int (iI (z1))), some (.ref (101)), none]) rfl ?_
  refine g_aload_n (q := 1) rfl rfl dL_cachedAt_0 rfl ?_
  refine g_iconst (q := 2) dL_cachedAt_1 rfl ?_
  refine g_aload_n (q := 3) rfl rfl dL_cachedAt_2 rfl ?_
  refine g_iload_n (q := 4) rfl rfl dL_cachedAt_3 rfl ?_
  refine g_HVw (q := 7) (d' := 7) (i := 0) (av := [.int (iI (z1))]) (st := [.int (iI (0)), .ref (101)]) kvL_74 hM (by decide) g0 rfl (Nat.le_of_ble_eq_true rfl) ⟨(Nat.le_of_ble_eq_true rfl), (Nat.le_of_ble_eq_true rfl)⟩ ⟨(Nat.le_of_ble_eq_true rfl), (Nat.le_of_ble_eq_true rfl)⟩ rfl dL_cachedAt_4 rfl (fun v h1 hp => ?_)
  obtain ⟨rfl, p1, p2⟩ := hp
  have ho1 : h1 101 = _ := (p2 101 (by decide)).trans ho
  refine g_i2l (q := 8) dL_cachedAt_7 rfl ?_
  refine g_lastore (q := 9) (by decide) ho1 (by decide) (by decide) (by decide) dL_cachedAt_8 rfl ?_
  refine hp_in (fun hh1 ehh1 => ?_)
  have fc2 : hh1 101 = cJ 1 (vp_updL f0 (0:Int).toNat ((iI v0).toInt64)) := by rw [ehh1]; exact ueh_s
  refine g_goto (q := 15) dL_cachedAt_9 rfl ?_
  refine g_iconst (q := 16) dL_cachedAt_15 rfl ?_
  exact g_ireturn (fun z => NN_f z) (Nat.le_of_ble_eq_true rfl) (Nat.le_of_ble_eq_true rfl) dL_cachedAt_16 rfl (wP_in ⟨rfl, p1.cells (fun j hj => by rw [ehh1, ueh_n (by omega)]), ⟨_, fc2, fun _ => vp_updL_0⟩, fun j a b => by rw [ehh1, ueh_n b]; exact p2 j a⟩)
set_option maxRecDepth 4000 in
theorem x1_L_cachedAt (l : Launch) (h : EHp) (S S' : ASt) (sv sv' : List ASt) (z1 : Int) (hC : CRep h S sv) (f0 : Nat → Int64) (ho : h 101 = cJ 1 f0) (hM : CT l mX7_cachedAt 7 1 6 [.ref (0), .int (iI (z1))] NN h (CX9 h S' sv' eIO)) : CT l mL_cachedAt 8 1 6 [.ref (0), .int (iI (z1)), .ref (101)] NN h (WQ h S' sv' 1 0) := by
  obtain ⟨g0, -⟩ := id hC
  refine CT.of (by decide) (Nat.le_of_ble_eq_true rfl) ?_
  refine g_al (al2 := [some (.ref (0)), some (.int (iI (z1))), some (.ref (101)), none]) rfl ?_
  refine g_aload_n (q := 1) rfl rfl dL_cachedAt_0 rfl ?_
  refine g_iconst (q := 2) dL_cachedAt_1 rfl ?_
  refine g_aload_n (q := 3) rfl rfl dL_cachedAt_2 rfl ?_
  refine g_iload_n (q := 4) rfl rfl dL_cachedAt_3 rfl ?_
  refine g_HVx (d' := 7) (i := 0) (av := [.int (iI (z1))]) (st := [.int (iI (0)), .ref (101)]) (pre := []) (suf := []) (sp := 0) (ep := 9) (hp0 := 12) (ct := 13) (j := 3) (q2 := 13) kvL_74 hM (by decide) g0 rfl (Nat.le_of_ble_eq_true rfl) ⟨(Nat.le_of_ble_eq_true rfl), (Nat.le_of_ble_eq_true rfl)⟩ ⟨(Nat.le_of_ble_eq_true rfl), (Nat.le_of_ble_eq_true rfl)⟩ rfl dL_cachedAt_4 rfl (fun z hz => by cases hz) ⟨(Nat.le_of_ble_eq_true rfl), (Nat.le_of_ble_eq_true rfl)⟩ (by decide) tw_238 (by decide +kernel) (Or.inl ⟨3, rfl, dL_cachedAt_12, rfl⟩) (Nat.le_of_ble_eq_true rfl) rfl (fun h1 hp => ?_)
  obtain ⟨p1, p2⟩ := hp
  show G l noX mL_cachedAt 8 1 6 (WQ h S' sv' 1 0) 1 6 13 [some (.ref (0)), some (.int (iI (z1))), some (.ref (101)), none] [] NN h1
  refine g_iconst (q := 14) dL_cachedAt_13 rfl ?_
  exact g_ireturn (fun z => NN_f z) (Nat.le_of_ble_eq_true rfl) (Nat.le_of_ble_eq_true rfl) dL_cachedAt_14 rfl (wP_in ⟨rfl, p1, ⟨f0, (p2 101 (by decide)).trans ho, fun z => absurd z (by decide)⟩, fun j a b => p2 j a⟩)
set_option maxRecDepth 4000 in
theorem o_L_undo (l : Launch) (h : EHp) (S S' : ASt) (sv sv' : List ASt) (hC : CRep h S sv) (f0 : Nat → Int64) (ho : h 101 = cJ 1 f0) (v0 : Int) (hM : CT l mX7_undo 7 0 0 [.ref (0)] NN h (CQ h S' sv' v0)) : CT l mL_undo 8 1 6 [.ref (0), .ref (101)] NN h (WQ h S' sv' 0 v0) := by
  obtain ⟨g0, -⟩ := id hC
  refine CT.of (by decide) (Nat.le_of_ble_eq_true rfl) ?_
  refine g_al (al2 := [some (.ref (0)), some (.ref (101)), none]) rfl ?_
  refine g_aload_n (q := 1) rfl rfl dL_undo_0 rfl ?_
  refine g_iconst (q := 2) dL_undo_1 rfl ?_
  refine g_aload_n (q := 3) rfl rfl dL_undo_2 rfl ?_
  refine g_HVw (q := 6) (d' := 7) (i := 0) (av := []) (st := [.int (iI (0)), .ref (101)]) kvL_77 hM (by decide) g0 rfl (Nat.le_of_ble_eq_true rfl) ⟨(Nat.le_of_ble_eq_true rfl), (Nat.le_of_ble_eq_true rfl)⟩ ⟨(Nat.le_of_ble_eq_true rfl), (Nat.le_of_ble_eq_true rfl)⟩ rfl dL_undo_3 rfl (fun v h1 hp => ?_)
  obtain ⟨rfl, p1, p2⟩ := hp
  have ho1 : h1 101 = _ := (p2 101 (by decide)).trans ho
  refine g_i2l (q := 7) dL_undo_6 rfl ?_
  refine g_lastore (q := 8) (by decide) ho1 (by decide) (by decide) (by decide) dL_undo_7 rfl ?_
  refine hp_in (fun hh1 ehh1 => ?_)
  have fc2 : hh1 101 = cJ 1 (vp_updL f0 (0:Int).toNat ((iI v0).toInt64)) := by rw [ehh1]; exact ueh_s
  refine g_goto (q := 14) dL_undo_8 rfl ?_
  refine g_iconst (q := 15) dL_undo_14 rfl ?_
  exact g_ireturn (fun z => NN_f z) (Nat.le_of_ble_eq_true rfl) (Nat.le_of_ble_eq_true rfl) dL_undo_15 rfl (wP_in ⟨rfl, p1.cells (fun j hj => by rw [ehh1, ueh_n (by omega)]), ⟨_, fc2, fun _ => vp_updL_0⟩, fun j a b => by rw [ehh1, ueh_n b]; exact p2 j a⟩)
set_option maxRecDepth 4000 in
theorem x1_L_undo (l : Launch) (h : EHp) (S S' : ASt) (sv sv' : List ASt) (hC : CRep h S sv) (f0 : Nat → Int64) (ho : h 101 = cJ 1 f0) (hM : CT l mX7_undo 7 1 6 [.ref (0)] NN h (CX9 h S' sv' eIS)) : CT l mL_undo 8 1 6 [.ref (0), .ref (101)] NN h (WQ h S' sv' 1 0) := by
  obtain ⟨g0, -⟩ := id hC
  refine CT.of (by decide) (Nat.le_of_ble_eq_true rfl) ?_
  refine g_al (al2 := [some (.ref (0)), some (.ref (101)), none]) rfl ?_
  refine g_aload_n (q := 1) rfl rfl dL_undo_0 rfl ?_
  refine g_iconst (q := 2) dL_undo_1 rfl ?_
  refine g_aload_n (q := 3) rfl rfl dL_undo_2 rfl ?_
  refine g_HVx (d' := 7) (i := 0) (av := []) (st := [.int (iI (0)), .ref (101)]) (pre := []) (suf := []) (sp := 0) (ep := 8) (hp0 := 11) (ct := 17) (j := 2) (q2 := 12) kvL_77 hM (by decide) g0 rfl (Nat.le_of_ble_eq_true rfl) ⟨(Nat.le_of_ble_eq_true rfl), (Nat.le_of_ble_eq_true rfl)⟩ ⟨(Nat.le_of_ble_eq_true rfl), (Nat.le_of_ble_eq_true rfl)⟩ rfl dL_undo_3 rfl (fun z hz => by cases hz) ⟨(Nat.le_of_ble_eq_true rfl), (Nat.le_of_ble_eq_true rfl)⟩ (by decide) tw_240 (by decide +kernel) (Or.inl ⟨2, rfl, dL_undo_11, rfl⟩) (Nat.le_of_ble_eq_true rfl) rfl (fun h1 hp => ?_)
  obtain ⟨p1, p2⟩ := hp
  show G l noX mL_undo 8 1 6 (WQ h S' sv' 1 0) 1 6 12 [some (.ref (0)), some (.ref (101)), none] [] NN h1
  refine g_iconst (q := 13) dL_undo_12 rfl ?_
  exact g_ireturn (fun z => NN_f z) (Nat.le_of_ble_eq_true rfl) (Nat.le_of_ble_eq_true rfl) dL_undo_13 rfl (wP_in ⟨rfl, p1, ⟨f0, (p2 101 (by decide)).trans ho, fun z => absurd z (by decide)⟩, fun j a b => p2 j a⟩)
