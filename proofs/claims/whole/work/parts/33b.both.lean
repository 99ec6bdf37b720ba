/-! ===== a call of the law, on both sides ===== -/
theorem xa_X7_unite (l : Launch) (h : EHp) (S : ASt) (sv : List ASt) (hC : CRep h S sv) (i j t : Int) (hi : IR i) (hj : IR j) (ht : IR t) (hb : ¬ ((0 ≤ i ∧ i < 4) ∧ (0 ≤ j ∧ j < 4) ∧ (0 ≤ t ∧ t < 4))) : CT l mX7_unite 9 1 6 [.ref (0), .int (iI (i)), .int (iI (j)), .int (iI (t))] NN h (xP eIO (fun h' => h' = h)) := by
  by_cases e3 : 0 ≤ t ∧ t < 4
  · obtain ⟨t2, rfl, ht2⟩ : ∃ a : Nat, t = a ∧ a < 4 := ⟨t.toNat, by omega, by omega⟩
    by_cases e1 : 0 ≤ i ∧ i < 4
    · obtain ⟨i2, rfl, hi2⟩ : ∃ a : Nat, i = a ∧ a < 4 := ⟨i.toNat, by omega, by omega⟩
      exact x3_X7_unite l h S sv hC i2 j t2 ht2 hi2 hj (by omega)
    · exact x2_X7_unite l h S sv hC i j t2 ht2 hi (by omega)
  · exact x_X7_unite l h S sv hC i j t ht (by omega)
theorem fa_X8_unite (l : Launch) (h : EHp) (th : Int) (S : ASt) (sv : List ASt) (hM : MRep h th S sv) (i j t : Int) (hi : IR i) (hj : IR j) (ht : IR t) (hb : ¬ ((0 ≤ i ∧ i < 4) ∧ (0 ≤ j ∧ j < 4) ∧ (0 ≤ t ∧ t < 4))) : CT l mX8_unite 3 0 0 [.ref (90), .int (iI (i)), .int (iI (j)), .int (iI (t))] NN h (wP (fun v h' => v = .int (iI 0) ∧ MRep h' 1 S sv ∧ FrM h h')) := by
  by_cases e1 : 0 ≤ i ∧ i < 4
  · by_cases e2 : 0 ≤ j ∧ j < 4
    · exact f3_X8_unite l h th S sv hM i j t e1 e2 ht (by omega)
    · exact f2_X8_unite l h th S sv hM i j t e1 hj (by omega)
  · exact f_X8_unite l h th S sv hM i j t hi (by omega)
theorem xa_X7_subtract (l : Launch) (h : EHp) (S : ASt) (sv : List ASt) (hC : CRep h S sv) (i j t : Int) (hi : IR i) (hj : IR j) (ht : IR t) (hb : ¬ ((0 ≤ i ∧ i < 4) ∧ (0 ≤ j ∧ j < 4) ∧ (0 ≤ t ∧ t < 4))) : CT l mX7_subtract 9 1 6 [.ref (0), .int (iI (i)), .int (iI (j)), .int (iI (t))] NN h (xP eIO (fun h' => h' = h)) := by
  by_cases e3 : 0 ≤ t ∧ t < 4
  · obtain ⟨t2, rfl, ht2⟩ : ∃ a : Nat, t = a ∧ a < 4 := ⟨t.toNat, by omega, by omega⟩
    by_cases e1 : 0 ≤ i ∧ i < 4
    · obtain ⟨i2, rfl, hi2⟩ : ∃ a : Nat, i = a ∧ a < 4 := ⟨i.toNat, by omega, by omega⟩
      exact x3_X7_subtract l h S sv hC i2 j t2 ht2 hi2 hj (by omega)
    · exact x2_X7_subtract l h S sv hC i j t2 ht2 hi (by omega)
  · exact x_X7_subtract l h S sv hC i j t ht (by omega)
theorem fa_X8_subtract (l : Launch) (h : EHp) (th : Int) (S : ASt) (sv : List ASt) (hM : MRep h th S sv) (i j t : Int) (hi : IR i) (hj : IR j) (ht : IR t) (hb : ¬ ((0 ≤ i ∧ i < 4) ∧ (0 ≤ j ∧ j < 4) ∧ (0 ≤ t ∧ t < 4))) : CT l mX8_subtract 3 0 0 [.ref (90), .int (iI (i)), .int (iI (j)), .int (iI (t))] NN h (wP (fun v h' => v = .int (iI 0) ∧ MRep h' 1 S sv ∧ FrM h h')) := by
  by_cases e1 : 0 ≤ i ∧ i < 4
  · by_cases e2 : 0 ≤ j ∧ j < 4
    · exact f3_X8_subtract l h th S sv hM i j t e1 e2 ht (by omega)
    · exact f2_X8_subtract l h th S sv hM i j t e1 hj (by omega)
  · exact f_X8_subtract l h th S sv hM i j t hi (by omega)
theorem j_size (l : Launch) (h : EHp) (S : ASt) (sv : List ASt) (z1 : Int) (r1 : IR z1) (hC : CRep h S sv) (f0 : Nat → Int64) (ho : h 101 = cJ 1 f0) : ∃ (kd : Int) (v0 : Int) (S' : ASt) (sv' : List ASt), (0 ≤ kd ∧ kd ≤ 3) ∧ CT l mL_size 10 1 6 [.ref (0), .int (iI (z1)), .ref (101)] NN h (WQ h S' sv' kd v0) ∧ ∀ (h1 : EHp) (th : Int), MRep h1 th S sv → CT l mX8_size 2 0 0 [.ref (90), .int (iI (z1))] NN h1 (MQi h1 S' sv' kd v0) := by
  by_cases e1 : 0 ≤ z1 ∧ z1 < 4
  · obtain ⟨i, rfl, hi⟩ : ∃ a : Nat, z1 = a ∧ a < 4 := ⟨z1.toNat, by omega, by omega⟩
    exact ⟨0, ((S.1 i).1), S, sv, by decide, o_L_size l h S S sv sv i hC f0 ho (((S.1 i).1)) (CT.rC hC (t_X7_size l h S sv hC i hi)), fun h1 th hM => CT.mOk (t_X8_size l h1 th S sv hM i hi)⟩
  · exact ⟨1, 0, S, sv, by decide, x1_L_size l h S S sv sv z1 hC f0 ho (CT.xC hC (x_X7_size l h S sv hC z1 r1 (by omega) )), fun h1 th hM => CT.mFl (by decide) (f_X8_size l h1 th S sv hM z1 r1 (by omega) )⟩
theorem j_partitions (l : Launch) (h : EHp) (S : ASt) (sv : List ASt) (z1 : Int) (r1 : IR z1) (hC : CRep h S sv) (f0 : Nat → Int64) (ho : h 101 = cJ 1 f0) : ∃ (kd : Int) (v0 : Int) (S' : ASt) (sv' : List ASt), (0 ≤ kd ∧ kd ≤ 3) ∧ CT l mL_partitions 10 1 6 [.ref (0), .int (iI (z1)), .ref (101)] NN h (WQ h S' sv' kd v0) ∧ ∀ (h1 : EHp) (th : Int), MRep h1 th S sv → CT l mX8_partitions 5 0 0 [.ref (90), .int (iI (z1))] NN h1 (MQi h1 S' sv' kd v0) := by
  by_cases e1 : 0 ≤ z1 ∧ z1 < 4
  · obtain ⟨i, rfl, hi⟩ : ∃ a : Nat, z1 = a ∧ a < 4 := ⟨z1.toNat, by omega, by omega⟩
    exact ⟨0, (pn (S.1 i).1 (S.1 i).2), S, sv, by decide, o_L_partitions l h S S sv sv i hC f0 ho ((pn (S.1 i).1 (S.1 i).2)) (CT.rC hC (t_X7_partitions l h S sv hC i hi)), fun h1 th hM => CT.mOk (t_X8_partitions l h1 th S sv hM i hi)⟩
  · exact ⟨1, 0, S, sv, by decide, x1_L_partitions l h S S sv sv z1 hC f0 ho (CT.xC hC (x_X7_partitions l h S sv hC z1 r1 (by omega) )), fun h1 th hM => CT.mFl (by decide) (f_X8_partitions l h1 th S sv hM z1 r1 (by omega) )⟩
theorem j_codeLength (l : Launch) (h : EHp) (S : ASt) (sv : List ASt) (z1 : Int) (r1 : IR z1) (hC : CRep h S sv) (f0 : Nat → Int64) (ho : h 101 = cJ 1 f0) : ∃ (kd : Int) (v0 : Int) (S' : ASt) (sv' : List ASt), (0 ≤ kd ∧ kd ≤ 3) ∧ CT l mL_codeLength 10 1 6 [.ref (0), .int (iI (z1)), .ref (101)] NN h (WQ h S' sv' kd v0) ∧ ∀ (h1 : EHp) (th : Int), MRep h1 th S sv → CT l mX8_codeLength 7 0 0 [.ref (90), .int (iI (z1))] NN h1 (MQi h1 S' sv' kd v0) := by
  by_cases e1 : 0 ≤ z1 ∧ z1 < 4
  · obtain ⟨i, rfl, hi⟩ : ∃ a : Nat, z1 = a ∧ a < 4 := ⟨z1.toNat, by omega, by omega⟩
    exact ⟨0, (szP (S.1 i).1 (S.1 i).2 (pn (S.1 i).1 (S.1 i).2)), S, sv, by decide, o_L_codeLength l h S S sv sv i hC f0 ho ((szP (S.1 i).1 (S.1 i).2 (pn (S.1 i).1 (S.1 i).2))) (CT.rC hC (t_X7_codeLength l h S sv hC i hi)), fun h1 th hM => CT.mOk (t_X8_codeLength l h1 th S sv hM i hi)⟩
  · exact ⟨1, 0, S, sv, by decide, x1_L_codeLength l h S S sv sv z1 hC f0 ho (CT.xC hC (x_X7_codeLength l h S sv hC z1 r1 (by omega) )), fun h1 th hM => CT.mFl (by decide) (f_X8_codeLength l h1 th S sv hM z1 r1 (by omega) )⟩
theorem j_bitsPerDocument (l : Launch) (h : EHp) (S : ASt) (sv : List ASt) (z1 : Int) (r1 : IR z1) (hC : CRep h S sv) (f0 : Nat → UInt64) (ho : h 102 = cD 1 f0) : ∃ (kd : Int) (v0 : UInt64) (S' : ASt) (sv' : List ASt), (0 ≤ kd ∧ kd ≤ 3) ∧ CT l mL_bitsPerDocument 10 1 6 [.ref (0), .int (iI (z1)), .ref (102)] NN h (WQd h S' sv' kd v0) ∧ ∀ (h1 : EHp) (th : Int), MRep h1 th S sv → CT l mX8_bitsPerDocument 7 0 0 [.ref (90), .int (iI (z1))] NN h1 (MQd h1 S' sv' kd v0) := by
  by_cases e1 : 0 ≤ z1 ∧ z1 < 4
  · obtain ⟨i, rfl, hi⟩ : ∃ a : Nat, z1 = a ∧ a < 4 := ⟨z1.toNat, by omega, by omega⟩
    exact ⟨0, (if (S.1 i).1 = 0 then FP.dconst0 else bpd (szP (S.1 i).1 (S.1 i).2 (pn (S.1 i).1 (S.1 i).2)) (S.1 i).1), S, sv, by decide, o_L_bitsPerDocument l h S S sv sv i hC f0 ho ((if (S.1 i).1 = 0 then FP.dconst0 else bpd (szP (S.1 i).1 (S.1 i).2 (pn (S.1 i).1 (S.1 i).2)) (S.1 i).1)) (CT.rCd hC (t_X7_bitsPerDocument l h S sv hC i hi)), fun h1 th hM => CT.mOd (t_X8_bitsPerDocument l h1 th S sv hM i hi)⟩
  · exact ⟨1, 0, S, sv, by decide, x1_L_bitsPerDocument l h S S sv sv z1 hC f0 ho (CT.xC hC (x_X7_bitsPerDocument l h S sv hC z1 r1 (by omega) )), fun h1 th hM => CT.mFd (by decide) (f_X8_bitsPerDocument l h1 th S sv hM z1 r1 (by omega) )⟩
theorem j_clear (l : Launch) (h : EHp) (S : ASt) (sv : List ASt) (z1 : Int) (r1 : IR z1) (hC : CRep h S sv) (f0 : Nat → Int64) (ho : h 101 = cJ 1 f0) : ∃ (kd : Int) (v0 : Int) (S' : ASt) (sv' : List ASt), (0 ≤ kd ∧ kd ≤ 3) ∧ CT l mL_clear 10 1 6 [.ref (0), .int (iI (z1)), .ref (101)] NN h (WQ h S' sv' kd v0) ∧ ∀ (h1 : EHp) (th : Int), MRep h1 th S sv → CT l mX8_clear 2 0 0 [.ref (90), .int (iI (z1))] NN h1 (MQi h1 S' sv' kd v0) := by
  by_cases e1 : 0 ≤ z1 ∧ z1 < 4
  · obtain ⟨i, rfl, hi⟩ : ∃ a : Nat, z1 = a ∧ a < 4 := ⟨z1.toNat, by omega, by omega⟩
    exact ⟨0, (S.1 i).1, (wrL S i 0 (fun _ => 0)), (push4 S sv), by decide, o_L_clear l h S (wrL S i 0 (fun _ => 0)) sv (push4 S sv) i hC f0 ho ((S.1 i).1) (t_X7_clear l h S sv hC i hi), fun h1 th hM => CT.mOk (t_X8_clear l h1 th S sv hM i hi)⟩
  · exact ⟨1, 0, S, sv, by decide, x1_L_clear l h S S sv sv z1 hC f0 ho (CT.xC hC (x_X7_clear l h S sv hC z1 r1 (by omega) )), fun h1 th hM => CT.mFl (by decide) (f_X8_clear l h1 th S sv hM z1 r1 (by omega) )⟩
theorem j_document (l : Launch) (h : EHp) (S : ASt) (sv : List ASt) (z1 z2 : Int) (r1 : IR z1) (r2 : IR z2) (hC : CRep h S sv) (f0 : Nat → Int64) (ho : h 101 = cJ 1 f0) : ∃ (kd : Int) (v0 : Int) (S' : ASt) (sv' : List ASt), (0 ≤ kd ∧ kd ≤ 3) ∧ CT l mL_document 10 1 6 [.ref (0), .int (iI (z1)), .int (iI (z2)), .ref (101)] NN h (WQ h S' sv' kd v0) ∧ ∀ (h1 : EHp) (th : Int), MRep h1 th S sv → CT l mX8_document 2 0 0 [.ref (90), .int (iI (z1)), .int (iI (z2))] NN h1 (MQi h1 S' sv' kd v0) := by
  by_cases e1 : 0 ≤ z1 ∧ z1 < 4
  · obtain ⟨i, rfl, hi⟩ : ∃ a : Nat, z1 = a ∧ a < 4 := ⟨z1.toNat, by omega, by omega⟩
    by_cases e2 : 0 ≤ z2 ∧ z2 < (S.1 i).1
    · exact ⟨0, ((S.1 i).2 z2), S, sv, by decide, o_L_document l h S S sv sv i z2 hC f0 ho (((S.1 i).2 z2)) (CT.rC hC (t_X7_document l h S sv hC i hi z2 e2.1 e2.2)), fun h1 th hM => CT.mOk (t_X8_document l h1 th S sv hM i hi z2 e2.1 e2.2)⟩
    · exact ⟨1, 0, S, sv, by decide, x1_L_document l h S S sv sv i z2 hC f0 ho (CT.xC hC (x2_X7_document l h S sv hC i hi z2 r2 (by omega))), fun h1 th hM => CT.mFl (by decide) (f2_X8_document l h1 th S sv hM i hi z2 r2 (by omega))⟩
  · exact ⟨1, 0, S, sv, by decide, x1_L_document l h S S sv sv z1 z2 hC f0 ho (CT.xC hC (x_X7_document l h S sv hC z1 r1 (by omega) z2)), fun h1 th hM => CT.mFl (by decide) (f_X8_document l h1 th S sv hM z1 r1 (by omega) z2)⟩
theorem j_rank (l : Launch) (h : EHp) (S : ASt) (sv : List ASt) (z1 z2 : Int) (r1 : IR z1) (r2 : IR z2) (hC : CRep h S sv) (f0 : Nat → Int64) (ho : h 101 = cJ 1 f0) : ∃ (kd : Int) (v0 : Int) (S' : ASt) (sv' : List ASt), (0 ≤ kd ∧ kd ≤ 3) ∧ CT l mL_rank 10 1 6 [.ref (0), .int (iI (z1)), .int (iI (z2)), .ref (101)] NN h (WQ h S' sv' kd v0) ∧ ∀ (h1 : EHp) (th : Int), MRep h1 th S sv → CT l mX8_rank 2 0 0 [.ref (90), .int (iI (z1)), .int (iI (z2))] NN h1 (MQi h1 S' sv' kd v0) := by
  by_cases e1 : 0 ≤ z1 ∧ z1 < 4
  · obtain ⟨i, rfl, hi⟩ : ∃ a : Nat, z1 = a ∧ a < 4 := ⟨z1.toNat, by omega, by omega⟩
    by_cases e2 : 0 ≤ z2 ∧ z2 ≤ 512
    · exact ⟨0, (cb (S.1 i).1 (S.1 i).2 z2), S, sv, by decide, o_L_rank l h S S sv sv i z2 hC f0 ho ((cb (S.1 i).1 (S.1 i).2 z2)) (CT.rC hC (t_X7_rank l h S sv hC i hi z2 e2.1 e2.2)), fun h1 th hM => CT.mOk (t_X8_rank l h1 th S sv hM i hi z2 e2.1 e2.2)⟩
    · exact ⟨2, 0, S, sv, by decide, x2_L_rank l h S S sv sv i z2 hC f0 ho (CT.xC hC (x2_X7_rank l h S sv hC i hi z2 r2 (by omega))), fun h1 th hM => CT.mFl (by decide) (f2_X8_rank l h1 th S sv hM i hi z2 r2 (by omega))⟩
  · exact ⟨1, 0, S, sv, by decide, x1_L_rank l h S S sv sv z1 z2 hC f0 ho (CT.xC hC (x_X7_rank l h S sv hC z1 r1 (by omega) z2)), fun h1 th hM => CT.mFl (by decide) (f_X8_rank l h1 th S sv hM z1 r1 (by omega) z2)⟩
theorem j_fixedLength (l : Launch) (h : EHp) (S : ASt) (sv : List ASt) (z1 z2 : Int) (r1 : IR z1) (r2 : IR z2) (hC : CRep h S sv) (f0 : Nat → Int64) (ho : h 101 = cJ 1 f0) : ∃ (kd : Int) (v0 : Int) (S' : ASt) (sv' : List ASt), (0 ≤ kd ∧ kd ≤ 3) ∧ CT l mL_fixedLength 10 1 6 [.ref (0), .int (iI (z1)), .int (iI (z2)), .ref (101)] NN h (WQ h S' sv' kd v0) ∧ ∀ (h1 : EHp) (th : Int), MRep h1 th S sv → CT l mX8_fixedLength 4 0 0 [.ref (90), .int (iI (z1)), .int (iI (z2))] NN h1 (MQi h1 S' sv' kd v0) := by
  by_cases e1 : 0 ≤ z1 ∧ z1 < 4
  · obtain ⟨i, rfl, hi⟩ : ∃ a : Nat, z1 = a ∧ a < 4 := ⟨z1.toNat, by omega, by omega⟩
    by_cases e2 : 1 ≤ z2 ∧ z2 ≤ 64
    · exact ⟨0, (flen (S.1 i).1 (S.1 i).2 z2), S, sv, by decide, o_L_fixedLength l h S S sv sv i z2 hC f0 ho ((flen (S.1 i).1 (S.1 i).2 z2)) (CT.rC hC (t_X7_fixedLength l h S sv hC i hi z2 e2.1 e2.2)), fun h1 th hM => CT.mOk (t_X8_fixedLength l h1 th S sv hM i hi z2 e2.1 e2.2)⟩
    · exact ⟨2, 0, S, sv, by decide, x2_L_fixedLength l h S S sv sv i z2 hC f0 ho (CT.xC hC (x2_X7_fixedLength l h S sv hC i hi z2 r2 (by omega))), fun h1 th hM => CT.mFl (by decide) (f2_X8_fixedLength l h1 th S sv hM i hi z2 r2 (by omega))⟩
  · exact ⟨1, 0, S, sv, by decide, x1_L_fixedLength l h S S sv sv z1 z2 hC f0 ho (CT.xC hC (x_X7_fixedLength l h S sv hC z1 r1 (by omega) z2)), fun h1 th hM => CT.mFl (by decide) (f_X8_fixedLength l h1 th S sv hM z1 r1 (by omega) z2)⟩
theorem j_codeBit (l : Launch) (h : EHp) (S : ASt) (sv : List ASt) (z1 z2 : Int) (r1 : IR z1) (r2 : IR z2) (hC : CRep h S sv) (f0 : Nat → Int64) (ho : h 101 = cJ 1 f0) : ∃ (kd : Int) (v0 : Int) (S' : ASt) (sv' : List ASt), (0 ≤ kd ∧ kd ≤ 3) ∧ CT l mL_codeBit 10 1 6 [.ref (0), .int (iI (z1)), .int (iI (z2)), .ref (101)] NN h (WQ h S' sv' kd v0) ∧ ∀ (h1 : EHp) (th : Int), MRep h1 th S sv → CT l mX8_codeBit 7 0 0 [.ref (90), .int (iI (z1)), .int (iI (z2))] NN h1 (MQi h1 S' sv' kd v0) := by
  by_cases e1 : 0 ≤ z1 ∧ z1 < 4
  · obtain ⟨i, rfl, hi⟩ : ∃ a : Nat, z1 = a ∧ a < 4 := ⟨z1.toNat, by omega, by omega⟩
    by_cases e2 : 0 ≤ z2 ∧ z2 < szP (S.1 i).1 (S.1 i).2 (pn (S.1 i).1 (S.1 i).2)
    · exact ⟨0, (cbit (S.1 i).1 (S.1 i).2 z2), S, sv, by decide, o_L_codeBit l h S S sv sv i z2 hC f0 ho ((cbit (S.1 i).1 (S.1 i).2 z2)) (t_X7_codeBit l h S sv hC i hi z2 e2.1 e2.2), fun h1 th hM => CT.mOk (t_X8_codeBit l h1 th S sv hM i hi z2 e2.1 e2.2)⟩
    · exact ⟨1, 0, S, sv, by decide, x1_L_codeBit l h S S sv sv i z2 hC f0 ho (CT.xC hC (x2_X7_codeBit l h S sv hC i hi z2 r2 (by omega))), fun h1 th hM => CT.mFl (by decide) (f2_X8_codeBit l h1 th S sv hM i hi z2 r2 (by omega))⟩
  · exact ⟨1, 0, S, sv, by decide, x1_L_codeBit l h S S sv sv z1 z2 hC f0 ho (CT.xC hC (x_X7_codeBit l h S sv hC z1 r1 (by omega) z2)), fun h1 th hM => CT.mFl (by decide) (f_X8_codeBit l h1 th S sv hM z1 r1 (by omega) z2)⟩
theorem j_nextAtLeast (l : Launch) (h : EHp) (S : ASt) (sv : List ASt) (z1 z2 : Int) (r1 : IR z1) (r2 : IR z2) (hC : CRep h S sv) (f0 : Nat → Int64) (ho : h 101 = cJ 1 f0) : ∃ (kd : Int) (v0 : Int) (S' : ASt) (sv' : List ASt), (0 ≤ kd ∧ kd ≤ 3) ∧ CT l mL_nextAtLeast 9 1 6 [.ref (0), .int (iI (z1)), .int (iI (z2)), .ref (101)] NN h (WQ h S' sv' kd v0) ∧ ∀ (h1 : EHp) (th : Int), MRep h1 th S sv → CT l mX8_nextAtLeast 8 0 0 [.ref (90), .int (iI (z1)), .int (iI (z2))] NN h1 (MQi h1 S' sv' kd v0) := by
  by_cases e1 : 0 ≤ z1 ∧ z1 < 4
  · obtain ⟨i, rfl, hi⟩ : ∃ a : Nat, z1 = a ∧ a < 4 := ⟨z1.toNat, by omega, by omega⟩
    by_cases e2 : 0 ≤ z2 ∧ z2 ≤ 511
    · exact ⟨0, (qry S i z2).1, (qry S i z2).2, (push4 S sv), by decide, o_L_nextAtLeast l h S (qry S i z2).2 sv (push4 S sv) i z2 hC f0 ho ((qry S i z2).1) (t_X7_nextAtLeast l h S sv hC i hi z2 e2.1 e2.2), fun h1 th hM => CT.mOk (t_X8_nextAtLeast l h1 th S sv hM i hi z2 e2.1 e2.2)⟩
    · exact ⟨2, 0, S, sv, by decide, x2_L_nextAtLeast l h S S sv sv i z2 hC f0 ho (CT.xC hC (x2_X7_nextAtLeast l h S sv hC i hi z2 r2 (by omega))), fun h1 th hM => CT.mFl (by decide) (f2_X8_nextAtLeast l h1 th S sv hM i hi z2 r2 (by omega))⟩
  · exact ⟨1, 0, S, sv, by decide, x1_L_nextAtLeast l h S S sv sv z1 z2 hC f0 ho (CT.xC hC (x_X7_nextAtLeast l h S sv hC z1 r1 (by omega) z2)), fun h1 th hM => CT.mFl (by decide) (f_X8_nextAtLeast l h1 th S sv hM z1 r1 (by omega) z2)⟩
theorem j_partition (l : Launch) (h : EHp) (S : ASt) (sv : List ASt) (z1 z2 z3 : Int) (r1 : IR z1) (r2 : IR z2) (r3 : IR z3) (hC : CRep h S sv) (f0 : Nat → Int64) (ho : h 101 = cJ 1 f0) : ∃ (kd : Int) (v0 : Int) (S' : ASt) (sv' : List ASt), (0 ≤ kd ∧ kd ≤ 3) ∧ CT l mL_partition 10 1 6 [.ref (0), .int (iI (z1)), .int (iI (z2)), .int (iI (z3)), .ref (101)] NN h (WQ h S' sv' kd v0) ∧ ∀ (h1 : EHp) (th : Int), MRep h1 th S sv → CT l mX8_partition 6 0 0 [.ref (90), .int (iI (z1)), .int (iI (z2)), .int (iI (z3))] NN h1 (MQi h1 S' sv' kd v0) := by
  by_cases e1 : 0 ≤ z1 ∧ z1 < 4
  · obtain ⟨i, rfl, hi⟩ : ∃ a : Nat, z1 = a ∧ a < 4 := ⟨z1.toNat, by omega, by omega⟩
    by_cases e2 : 0 ≤ z2 ∧ z2 < (pn (S.1 i).1 (S.1 i).2 : Int)
    · by_cases e3 : 0 ≤ z3 ∧ z3 ≤ 5
      · obtain ⟨k, rfl, hk⟩ : ∃ a : Nat, z2 = a ∧ a < pn (S.1 i).1 (S.1 i).2 := ⟨z2.toNat, by omega, by omega⟩
        exact ⟨0, (fct (S.1 i).2 (pb (S.1 i).1 (S.1 i).2 k) (pb (S.1 i).1 (S.1 i).2 (k + 1)) z3), S, sv, by decide, o_L_partition l h S S sv sv i k z3 hC f0 ho ((fct (S.1 i).2 (pb (S.1 i).1 (S.1 i).2 k) (pb (S.1 i).1 (S.1 i).2 (k + 1)) z3)) (CT.rC hC (t_X7_partition l h S sv hC i hi k z3 hk e3.1 e3.2)), fun h1 th hM => CT.mOk (t_X8_partition l h1 th S sv hM i hi k z3 hk e3.1 e3.2)⟩
      · exact ⟨2, 0, S, sv, by decide, x2_L_partition l h S S sv sv i z2 z3 hC f0 ho (CT.xC hC (x3_X7_partition l h S sv hC i hi z2 z3 r3 e2.1 e2.2 (by omega))), fun h1 th hM => CT.mFl (by decide) (f3_X8_partition l h1 th S sv hM i hi z2 z3 r3 e2.1 e2.2 (by omega))⟩
    · exact ⟨1, 0, S, sv, by decide, x1_L_partition l h S S sv sv i z2 z3 hC f0 ho (CT.xC hC (x2_X7_partition l h S sv hC i hi z2 z3 r2 (by omega))), fun h1 th hM => CT.mFl (by decide) (f2_X8_partition l h1 th S sv hM i hi z2 z3 r2 (by omega))⟩
  · exact ⟨1, 0, S, sv, by decide, x1_L_partition l h S S sv sv z1 z2 z3 hC f0 ho (CT.xC hC (x_X7_partition l h S sv hC z1 r1 (by omega) z2 z3)), fun h1 th hM => CT.mFl (by decide) (f_X8_partition l h1 th S sv hM z1 r1 (by omega) z2 z3)⟩
theorem j_append (l : Launch) (h : EHp) (S : ASt) (sv : List ASt) (z1 z2 : Int) (r1 : IR z1) (r2 : IR z2) (hC : CRep h S sv) (f0 : Nat → Int64) (ho : h 101 = cJ 1 f0) : ∃ (kd : Int) (v0 : Int) (S' : ASt) (sv' : List ASt), (0 ≤ kd ∧ kd ≤ 3) ∧ CT l mL_append 11 1 6 [.ref (0), .int (iI (z1)), .int (iI (z2)), .ref (101)] NN h (WQ h S' sv' kd v0) ∧ ∀ (h1 : EHp) (th : Int), MRep h1 th S sv → CT l mX8_append 2 0 0 [.ref (90), .int (iI (z1)), .int (iI (z2))] NN h1 (MQi h1 S' sv' kd v0) := by
  by_cases e1 : 0 ≤ z1 ∧ z1 < 4
  · obtain ⟨i, rfl, hi⟩ : ∃ a : Nat, z1 = a ∧ a < 4 := ⟨z1.toNat, by omega, by omega⟩
    by_cases e2 : 0 ≤ z2 ∧ z2 ≤ 511
    · by_cases e3 : dA (S.1 i).1 (S.1 i).2 ((S.1 i).1 - 1) < z2
      · by_cases e4 : (S.1 i).1 + 1 ≤ 64
        · exact ⟨0, ((S.1 i).1 + 1), (wrL S i ((S.1 i).1 + 1) (apF (S.1 i).1 (S.1 i).2 z2 1)), (push4 S sv), by decide, o_L_append l h S (wrL S i ((S.1 i).1 + 1) (apF (S.1 i).1 (S.1 i).2 z2 1)) sv (push4 S sv) i z2 hC f0 ho (((S.1 i).1 + 1)) (t_X7_append l h S sv hC i hi z2 e2 e3 e4), fun h1 th hM => CT.mOk (t_X8_append l h1 th S sv hM i hi z2 e2 e3 e4)⟩
        · exact ⟨3, 0, S, sv, by decide, x3_L_append l h S S sv sv i z2 hC f0 ho (CT.xC hC (x4_X7_append l h S sv hC i hi z2 e2 e3 (by omega))), fun h1 th hM => CT.mFl (by decide) (f4_X8_append l h1 th S sv hM i hi z2 e2 e3 (by omega))⟩
      · exact ⟨2, 0, S, sv, by decide, x2_L_append l h S S sv sv i z2 hC f0 ho (CT.xC hC (x3_X7_append l h S sv hC i hi z2 e2 e3)), fun h1 th hM => CT.mFl (by decide) (f3_X8_append l h1 th S sv hM i hi z2 e2 e3)⟩
    · exact ⟨2, 0, S, sv, by decide, x2_L_append l h S S sv sv i z2 hC f0 ho (CT.xC hC (x2_X7_append l h S sv hC i hi z2 r2 (by omega))), fun h1 th hM => CT.mFl (by decide) (f2_X8_append l h1 th S sv hM i hi z2 r2 (by omega))⟩
  · exact ⟨1, 0, S, sv, by decide, x1_L_append l h S S sv sv z1 z2 hC f0 ho (CT.xC hC (x_X7_append l h S sv hC z1 r1 (by omega) z2)), fun h1 th hM => CT.mFl (by decide) (f_X8_append l h1 th S sv hM z1 r1 (by omega) z2)⟩
theorem j_appendRange (l : Launch) (h : EHp) (S : ASt) (sv : List ASt) (z1 z2 z3 z4 : Int) (r1 : IR z1) (r2 : IR z2) (r3 : IR z3) (r4 : IR z4) (hC : CRep h S sv) (f0 : Nat → Int64) (ho : h 101 = cJ 1 f0) : ∃ (kd : Int) (v0 : Int) (S' : ASt) (sv' : List ASt), (0 ≤ kd ∧ kd ≤ 3) ∧ CT l mL_appendRange 10 1 6 [.ref (0), .int (iI (z1)), .int (iI (z2)), .int (iI (z3)), .int (iI (z4)), .ref (101)] NN h (WQ h S' sv' kd v0) ∧ ∀ (h1 : EHp) (th : Int), MRep h1 th S sv → CT l mX8_appendRange 2 0 0 [.ref (90), .int (iI (z1)), .int (iI (z2)), .int (iI (z3)), .int (iI (z4))] NN h1 (MQi h1 S' sv' kd v0) := by
  by_cases e1 : 0 ≤ z1 ∧ z1 < 4
  · obtain ⟨i, rfl, hi⟩ : ∃ a : Nat, z1 = a ∧ a < 4 := ⟨z1.toNat, by omega, by omega⟩
    by_cases e2 : (0 ≤ z2 ∧ z2 ≤ 511) ∧ (1 ≤ z3 ∧ z3 ≤ 511) ∧ (1 ≤ z4 ∧ z4 ≤ 64) ∧ z2 + z3 * (z4 - 1) ≤ 511
    · by_cases e3 : dA (S.1 i).1 (S.1 i).2 ((S.1 i).1 - 1) < z2
      · by_cases e4 : (S.1 i).1 + z4 ≤ 64
        · exact ⟨0, ((S.1 i).1 + z4), (wrL S i ((S.1 i).1 + z4) (apF (S.1 i).1 (S.1 i).2 z2 z3)), (push4 S sv), by decide, o_L_appendRange l h S (wrL S i ((S.1 i).1 + z4) (apF (S.1 i).1 (S.1 i).2 z2 z3)) sv (push4 S sv) i z2 z3 z4 hC f0 ho (((S.1 i).1 + z4)) (t_X7_appendRange l h S sv hC i hi z2 z3 z4 e2.1 e2.2.1 e2.2.2.1 e2.2.2.2 e3 e4), fun h1 th hM => CT.mOk (t_X8_appendRange l h1 th S sv hM i hi z2 z3 z4 e2.1 e2.2.1 e2.2.2.1 e2.2.2.2 e3 e4)⟩
        · exact ⟨3, 0, S, sv, by decide, x3_L_appendRange l h S S sv sv i z2 z3 z4 hC f0 ho (CT.xC hC (x4_X7_appendRange l h S sv hC i hi z2 z3 z4 e2.1 e2.2.1 e2.2.2.1 e2.2.2.2 e3 (by omega))), fun h1 th hM => CT.mFl (by decide) (f4_X8_appendRange l h1 th S sv hM i hi z2 z3 z4 e2.1 e2.2.1 e2.2.2.1 e2.2.2.2 e3 (by omega))⟩
      · exact ⟨2, 0, S, sv, by decide, x2_L_appendRange l h S S sv sv i z2 z3 z4 hC f0 ho (CT.xC hC (x3_X7_appendRange l h S sv hC i hi z2 z3 z4 e2.1 e2.2.1 e2.2.2.1 e2.2.2.2 e3)), fun h1 th hM => CT.mFl (by decide) (f3_X8_appendRange l h1 th S sv hM i hi z2 z3 z4 e2.1 e2.2.1 e2.2.2.1 e2.2.2.2 e3)⟩
    · exact ⟨2, 0, S, sv, by decide, x2_L_appendRange l h S S sv sv i z2 z3 z4 hC f0 ho (CT.xC hC (x2_X7_appendRange l h S sv hC i hi z2 z3 z4 r2 r3 r4 e2)), fun h1 th hM => CT.mFl (by decide) (f2_X8_appendRange l h1 th S sv hM i hi z2 z3 z4 r2 r3 r4 e2)⟩
  · exact ⟨1, 0, S, sv, by decide, x1_L_appendRange l h S S sv sv z1 z2 z3 z4 hC f0 ho (CT.xC hC (x_X7_appendRange l h S sv hC z1 r1 (by omega) z2 z3 z4)), fun h1 th hM => CT.mFl (by decide) (f_X8_appendRange l h1 th S sv hM z1 r1 (by omega) z2 z3 z4)⟩
theorem j_countIntersection (l : Launch) (h : EHp) (S : ASt) (sv : List ASt) (z1 : Int) (r1 : IR z1) (hC : CRep h S sv) (f0 : Nat → Int64) (ho : h 101 = cJ 1 f0) : ∃ (kd : Int) (v0 : Int) (S' : ASt) (sv' : List ASt), (0 ≤ kd ∧ kd ≤ 3) ∧ CT l mL_countIntersection 9 1 6 [.ref (0), .int (iI (z1)), .ref (101)] NN h (WQ h S' sv' kd v0) ∧ ∀ (h1 : EHp) (th : Int), MRep h1 th S sv → CT l mX8_countIntersection 9 0 0 [.ref (90), .int (iI (z1))] NN h1 (MQi h1 S' sv' kd v0) := by
  by_cases e1 : 1 ≤ z1 ∧ z1 ≤ 15
  · exact ⟨0, (isc S z1).2.1, (isc S z1).2.2.2, (push4 S sv), by decide, o_L_countIntersection l h S (isc S z1).2.2.2 sv (push4 S sv) z1 hC f0 ho ((isc S z1).2.1) (t_X7_countIntersection l h S sv hC z1 e1.1 e1.2), fun h1 th hM => CT.mOk (t_X8_countIntersection l h1 th S sv hM z1 e1.1 e1.2)⟩
  · exact ⟨1, 0, S, sv, by decide, x1_L_countIntersection l h S S sv sv z1 hC f0 ho (CT.xC hC (x_X7_countIntersection l h S sv hC z1 r1 (by omega))), fun h1 th hM => CT.mFl (by decide) (f_X8_countIntersection l h1 th S sv hM z1 r1 (by omega))⟩
theorem j_intersect (l : Launch) (h : EHp) (S : ASt) (sv : List ASt) (z1 z2 : Int) (r1 : IR z1) (r2 : IR z2) (hC : CRep h S sv) (f0 : Nat → Int64) (ho : h 101 = cJ 1 f0) : ∃ (kd : Int) (v0 : Int) (S' : ASt) (sv' : List ASt), (0 ≤ kd ∧ kd ≤ 3) ∧ CT l mL_intersect 9 1 6 [.ref (0), .int (iI (z1)), .int (iI (z2)), .ref (101)] NN h (WQ h S' sv' kd v0) ∧ ∀ (h1 : EHp) (th : Int), MRep h1 th S sv → CT l mX8_intersect 9 0 0 [.ref (90), .int (iI (z1)), .int (iI (z2))] NN h1 (MQi h1 S' sv' kd v0) := by
  by_cases e1 : 1 ≤ z1 ∧ z1 ≤ 15
  · by_cases e2 : 0 ≤ z2 ∧ z2 < 4
    · obtain ⟨t, rfl, ht⟩ : ∃ a : Nat, z2 = a ∧ a < 4 := ⟨z2.toNat, by omega, by omega⟩
      exact ⟨0, (isc S z1).2.1, (wrL (isc S z1).2.2.2 t (isc S z1).2.1 (isc S z1).2.2.1), (push4 S sv), by decide, o_L_intersect l h S (wrL (isc S z1).2.2.2 t (isc S z1).2.1 (isc S z1).2.2.1) sv (push4 S sv) z1 t hC f0 ho ((isc S z1).2.1) (t_X7_intersect l h S sv hC z1 e1.1 e1.2 t ht), fun h1 th hM => CT.mOk (t_X8_intersect l h1 th S sv hM z1 e1.1 e1.2 t ht)⟩
    · exact ⟨2, 0, S, sv, by decide, x2_L_intersect l h S S sv sv z1 z2 hC f0 ho (CT.xC hC (x2_X7_intersect l h S sv hC z1 e1.1 e1.2 z2 r2 (by omega))), fun h1 th hM => CT.mFl (by decide) (f2_X8_intersect l h1 th S sv hM z1 e1.1 e1.2 z2 r2 (by omega))⟩
  · exact ⟨1, 0, S, sv, by decide, x1_L_intersect l h S S sv sv z1 z2 hC f0 ho (CT.xC hC (x_X7_intersect l h S sv hC z1 z2 r1 (by omega))), fun h1 th hM => CT.mFl (by decide) (f_X8_intersect l h1 th S sv hM z1 z2 r1 (by omega))⟩
theorem j_unite (l : Launch) (h : EHp) (S : ASt) (sv : List ASt) (z1 z2 z3 : Int) (r1 : IR z1) (r2 : IR z2) (r3 : IR z3) (hC : CRep h S sv) (f0 : Nat → Int64) (ho : h 101 = cJ 1 f0) : ∃ (kd : Int) (v0 : Int) (S' : ASt) (sv' : List ASt), (0 ≤ kd ∧ kd ≤ 3) ∧ CT l mL_unite 10 1 6 [.ref (0), .int (iI (z1)), .int (iI (z2)), .int (iI (z3)), .ref (101)] NN h (WQ h S' sv' kd v0) ∧ ∀ (h1 : EHp) (th : Int), MRep h1 th S sv → CT l mX8_unite 3 0 0 [.ref (90), .int (iI (z1)), .int (iI (z2)), .int (iI (z3))] NN h1 (MQi h1 S' sv' kd v0) := by
  by_cases e1 : (0 ≤ z1 ∧ z1 < 4) ∧ (0 ≤ z2 ∧ z2 < 4) ∧ (0 ≤ z3 ∧ z3 < 4)
  · obtain ⟨i, rfl, hi⟩ : ∃ a : Nat, z1 = a ∧ a < 4 := ⟨z1.toNat, by omega, by omega⟩
    obtain ⟨k, rfl, hk⟩ : ∃ a : Nat, z2 = a ∧ a < 4 := ⟨z2.toNat, by omega, by omega⟩
    obtain ⟨t, rfl, ht⟩ : ∃ a : Nat, z3 = a ∧ a < 4 := ⟨z3.toNat, by omega, by omega⟩
    by_cases e4 : (uni S i k).1 ≤ 64
    · exact ⟨0, (uni S i k).1, (wrL S t (uni S i k).1 (uni S i k).2), (push4 S sv), by decide, o_L_unite l h S (wrL S t (uni S i k).1 (uni S i k).2) sv (push4 S sv) i k t hC f0 ho ((uni S i k).1) (t_X7_unite l h S sv hC i k t hi hk ht e4), fun h1 th hM => CT.mOk (t_X8_unite l h1 th S sv hM i k t hi hk ht e4)⟩
    · exact ⟨2, 0, S, sv, by decide, x2_L_unite l h S S sv sv i k t hC f0 ho (x4_X7_unite l h S sv hC i k t hi hk ht (by omega)), fun h1 th hM => CT.mFl (by decide) (f4_X8_unite l h1 th S sv hM i k t hi hk ht (by omega))⟩
  · exact ⟨1, 0, S, sv, by decide, x1_L_unite l h S S sv sv z1 z2 z3 hC f0 ho (CT.xC hC (xa_X7_unite l h S sv hC z1 z2 z3 r1 r2 r3 e1)), fun h1 th hM => CT.mFl (by decide) (fa_X8_unite l h1 th S sv hM z1 z2 z3 r1 r2 r3 e1)⟩
theorem j_subtract (l : Launch) (h : EHp) (S : ASt) (sv : List ASt) (z1 z2 z3 : Int) (r1 : IR z1) (r2 : IR z2) (r3 : IR z3) (hC : CRep h S sv) (f0 : Nat → Int64) (ho : h 101 = cJ 1 f0) : ∃ (kd : Int) (v0 : Int) (S' : ASt) (sv' : List ASt), (0 ≤ kd ∧ kd ≤ 3) ∧ CT l mL_subtract 10 1 6 [.ref (0), .int (iI (z1)), .int (iI (z2)), .int (iI (z3)), .ref (101)] NN h (WQ h S' sv' kd v0) ∧ ∀ (h1 : EHp) (th : Int), MRep h1 th S sv → CT l mX8_subtract 3 0 0 [.ref (90), .int (iI (z1)), .int (iI (z2)), .int (iI (z3))] NN h1 (MQi h1 S' sv' kd v0) := by
  by_cases e1 : (0 ≤ z1 ∧ z1 < 4) ∧ (0 ≤ z2 ∧ z2 < 4) ∧ (0 ≤ z3 ∧ z3 < 4)
  · obtain ⟨i, rfl, hi⟩ : ∃ a : Nat, z1 = a ∧ a < 4 := ⟨z1.toNat, by omega, by omega⟩
    obtain ⟨k, rfl, hk⟩ : ∃ a : Nat, z2 = a ∧ a < 4 := ⟨z2.toNat, by omega, by omega⟩
    obtain ⟨t, rfl, ht⟩ : ∃ a : Nat, z3 = a ∧ a < 4 := ⟨z3.toNat, by omega, by omega⟩
    exact ⟨0, (sub S i k).1, (wrL S t (sub S i k).1 (sub S i k).2), (push4 S sv), by decide, o_L_subtract l h S (wrL S t (sub S i k).1 (sub S i k).2) sv (push4 S sv) i k t hC f0 ho ((sub S i k).1) (t_X7_subtract l h S sv hC i k t hi hk ht ), fun h1 th hM => CT.mOk (t_X8_subtract l h1 th S sv hM i k t hi hk ht )⟩
  · exact ⟨1, 0, S, sv, by decide, x1_L_subtract l h S S sv sv z1 z2 z3 hC f0 ho (CT.xC hC (xa_X7_subtract l h S sv hC z1 z2 z3 r1 r2 r3 e1)), fun h1 th hM => CT.mFl (by decide) (fa_X8_subtract l h1 th S sv hM z1 z2 z3 r1 r2 r3 e1)⟩
theorem j_setCapacity (l : Launch) (h : EHp) (S : ASt) (sv : List ASt) (z1 : Int) (r1 : IR z1) (hC : CRep h S sv) (f0 : Nat → Int64) (ho : h 101 = cJ 1 f0) : ∃ (kd : Int) (v0 : Int) (S' : ASt) (sv' : List ASt), (0 ≤ kd ∧ kd ≤ 3) ∧ CT l mL_setCapacity 8 1 6 [.ref (0), .int (iI (z1)), .ref (101)] NN h (WQ h S' sv' kd v0) ∧ ∀ (h1 : EHp) (th : Int), MRep h1 th S sv → CT l mX8_setCapacity 1 0 0 [.ref (90), .int (iI (z1))] NN h1 (MQi h1 S' sv' kd v0) := by
  by_cases e1 : 0 ≤ z1 ∧ z1 ≤ 8
  · obtain ⟨cp, rfl, hcp⟩ : ∃ a : Nat, z1 = a ∧ a < 9 := ⟨z1.toNat, by omega, by omega⟩
    exact ⟨0, S.2.1, (S.1, (cp : Int), trim cp S.2.2.1, S.2.2.2.1, S.2.2.2.2), (push4 S sv), by decide, o_L_setCapacity l h S (S.1, (cp : Int), trim cp S.2.2.1, S.2.2.2.1, S.2.2.2.2) sv (push4 S sv) cp hC f0 ho (S.2.1) (t_X7_setCapacity l h S sv hC cp (by omega)), fun h1 th hM => CT.mOk (t_X8_setCapacity l h1 th S sv hM cp (by omega))⟩
  · exact ⟨1, 0, S, sv, by decide, x1_L_setCapacity l h S S sv sv z1 hC f0 ho (CT.xC hC (x_X7_setCapacity l h S sv hC z1 r1 (by omega))), fun h1 th hM => CT.mFl (by decide) (f_X8_setCapacity l h1 th S sv hM z1 r1 (by omega))⟩
theorem j_cachedAt (l : Launch) (h : EHp) (S : ASt) (sv : List ASt) (z1 : Int) (r1 : IR z1) (hC : CRep h S sv) (f0 : Nat → Int64) (ho : h 101 = cJ 1 f0) : ∃ (kd : Int) (v0 : Int) (S' : ASt) (sv' : List ASt), (0 ≤ kd ∧ kd ≤ 3) ∧ CT l mL_cachedAt 8 1 6 [.ref (0), .int (iI (z1)), .ref (101)] NN h (WQ h S' sv' kd v0) ∧ ∀ (h1 : EHp) (th : Int), MRep h1 th S sv → CT l mX8_cachedAt 1 0 0 [.ref (90), .int (iI (z1))] NN h1 (MQi h1 S' sv' kd v0) := by
  by_cases e1 : 0 ≤ z1 ∧ z1 < (S.2.2.1.length : Int)
  · obtain ⟨k, rfl, hk⟩ : ∃ a : Nat, z1 = a ∧ a < S.2.2.1.length := ⟨z1.toNat, by omega, by omega⟩
    obtain ⟨v, hv⟩ : ∃ v, S.2.2.1[k]? = some v := ⟨_, List.getElem?_eq_getElem hk⟩
    exact ⟨0, v, S, sv, by decide, o_L_cachedAt l h S S sv sv k hC f0 ho (v) (CT.rC hC (t_X7_cachedAt l h S sv hC k v hv)), fun h1 th hM => CT.mOk (t_X8_cachedAt l h1 th S sv hM k v hv)⟩
  · exact ⟨1, 0, S, sv, by decide, x1_L_cachedAt l h S S sv sv z1 hC f0 ho (CT.xC hC (x_X7_cachedAt l h S sv hC z1 r1 (by omega))), fun h1 th hM => CT.mFl (by decide) (f_X8_cachedAt l h1 th S sv hM z1 r1 (by omega))⟩
theorem j_undo (l : Launch) (h : EHp) (S : ASt) (sv : List ASt) (hC : CRep h S sv) (f0 : Nat → Int64) (ho : h 101 = cJ 1 f0) : ∃ (kd : Int) (v0 : Int) (S' : ASt) (sv' : List ASt), (0 ≤ kd ∧ kd ≤ 3) ∧ CT l mL_undo 8 1 6 [.ref (0), .ref (101)] NN h (WQ h S' sv' kd v0) ∧ ∀ (h1 : EHp) (th : Int), MRep h1 th S sv → CT l mX8_undo 1 0 0 [.ref (90)] NN h1 (MQi h1 S' sv' kd v0) := by
  cases sv with
  | nil => exact ⟨1, 0, S, [], by decide, x1_L_undo l h S S [] [] hC f0 ho (CT.xC hC (x_X7_undo l h S hC)), fun h1 th hM => CT.mFl (by decide) (f_X8_undo l h1 th S hM)⟩
  | cons R sv => exact ⟨0, sv.length, R, sv, by decide, o_L_undo l h S R (R :: sv) sv hC f0 ho (sv.length) (t_X7_undo l h S R sv hC), fun h1 th hM => CT.mOk (t_X8_undo l h1 th S R sv hM)⟩
