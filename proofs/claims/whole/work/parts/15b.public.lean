/-! ===== MonotonePostings: calls ===== -/
set_option maxRecDepth 4000 in
theorem t_X7_size (l : Launch) (h : EHp) (S : ASt) (sv : List ASt) (hC : CRep h S sv) (i : Nat) (hi : i < 4) : CT l mX7_size 9 0 0 [.ref (0), .int (iI (i))] NN h (rP (.int (iI (S.1 i).1)) h) := by
  obtain ⟨g0, k1, k2, k4, k5, -⟩ := id hC
  obtain ⟨m, ds, fa, hA, hag, hO, hFO⟩ := k5 i hi trivial
  have hOd := ag_LOk hag hO
  obtain ⟨o1, o2, o3, o4⟩ := id hO
  have em := hFO.pn
  have hm := hFO.1
  refine CT.of (by decide) (Nat.le_of_ble_eq_true rfl) ?_
  refine g_al (al2 := [some (.ref (0)), some (.int (iI (i)))]) rfl ?_
  refine g_aload_n (q := 1) rfl rfl dX7_size_0 rfl ?_
  refine g_iload_n (q := 2) rfl rfl dX7_size_1 rfl ?_
  refine g_Vr (q := 5) (d' := 8) (i := 0) (av := [.int (iI (i))]) (st := []) (v := .ref (5 + 3 * i)) kvX7_48 (t_X7_listAt l h S sv hC i hi) (by decide) g0 rfl (Nat.le_of_ble_eq_true rfl) ⟨(Nat.le_of_ble_eq_true rfl), (Nat.le_of_ble_eq_true rfl)⟩ ⟨(Nat.le_of_ble_eq_true rfl), (Nat.le_of_ble_eq_true rfl)⟩ rfl rfl dX7_size_2 rfl ?_
  refine g_get (q := 8) fX7_69r (by show _ < 103; omega) hA.1 rfl dX7_size_5 rfl ?_
  exact g_ireturn (fun z => NN_f z) (Nat.le_of_ble_eq_true rfl) (Nat.le_of_ble_eq_true rfl) dX7_size_8 rfl rP_in
set_option maxRecDepth 4000 in
theorem x_X7_size (l : Launch) (h : EHp) (S : ASt) (sv : List ASt) (hC : CRep h S sv) (i : Int) (hi : IR i) (h0 : i < 0 ∨ 4 ≤ i) : CT l mX7_size 9 1 6 [.ref (0), .int (iI (i))] NN h (xP eIO (fun h' => h' = h)) := by
  obtain ⟨g0, k1, k2, k4, k5, -⟩ := id hC
  refine CT.of (by decide) (Nat.le_of_ble_eq_true rfl) ?_
  refine g_al (al2 := [some (.ref (0)), some (.int (iI (i)))]) rfl ?_
  refine g_aload_n (q := 1) rfl rfl dX7_size_0 rfl ?_
  refine g_iload_n (q := 2) rfl rfl dX7_size_1 rfl ?_
  exact g_Vx (d' := 8) (i := 0) (av := [.int (iI (i))]) (st := []) kvX7_48 (x_X7_listAt l h i hi h0) (by decide) g0 rfl (Nat.le_of_ble_eq_true rfl) ⟨(Nat.le_of_ble_eq_true rfl), (Nat.le_of_ble_eq_true rfl)⟩ ⟨(Nat.le_of_ble_eq_true rfl), (Nat.le_of_ble_eq_true rfl)⟩ rfl rfl dX7_size_2 (fun h2 z => xP_in z)
set_option maxRecDepth 4000 in
theorem t_X7_partitions (l : Launch) (h : EHp) (S : ASt) (sv : List ASt) (hC : CRep h S sv) (i : Nat) (hi : i < 4) : CT l mX7_partitions 9 0 0 [.ref (0), .int (iI (i))] NN h (rP (.int (iI (pn (S.1 i).1 (S.1 i).2))) h) := by
  obtain ⟨g0, k1, k2, k4, k5, -⟩ := id hC
  obtain ⟨m, ds, fa, hA, hag, hO, hFO⟩ := k5 i hi trivial
  have hOd := ag_LOk hag hO
  obtain ⟨o1, o2, o3, o4⟩ := id hO
  have em := hFO.pn
  have hm := hFO.1
  refine CT.of (by decide) (Nat.le_of_ble_eq_true rfl) ?_
  refine g_al (al2 := [some (.ref (0)), some (.int (iI (i)))]) rfl ?_
  refine g_aload_n (q := 1) rfl rfl dX7_partitions_0 rfl ?_
  refine g_iload_n (q := 2) rfl rfl dX7_partitions_1 rfl ?_
  refine g_Vr (q := 5) (d' := 8) (i := 0) (av := [.int (iI (i))]) (st := []) (v := .ref (5 + 3 * i)) kvX7_48 (t_X7_listAt l h S sv hC i hi) (by decide) g0 rfl (Nat.le_of_ble_eq_true rfl) ⟨(Nat.le_of_ble_eq_true rfl), (Nat.le_of_ble_eq_true rfl)⟩ ⟨(Nat.le_of_ble_eq_true rfl), (Nat.le_of_ble_eq_true rfl)⟩ rfl rfl dX7_partitions_2 rfl ?_
  refine g_get (q := 8) fX7_107r (by show _ < 103; omega) hA.1 rfl dX7_partitions_5 rfl ?_
  rw [em]
  exact g_ireturn (fun z => NN_f z) (Nat.le_of_ble_eq_true rfl) (Nat.le_of_ble_eq_true rfl) dX7_partitions_8 rfl rP_in
set_option maxRecDepth 4000 in
theorem x_X7_partitions (l : Launch) (h : EHp) (S : ASt) (sv : List ASt) (hC : CRep h S sv) (i : Int) (hi : IR i) (h0 : i < 0 ∨ 4 ≤ i) : CT l mX7_partitions 9 1 6 [.ref (0), .int (iI (i))] NN h (xP eIO (fun h' => h' = h)) := by
  obtain ⟨g0, k1, k2, k4, k5, -⟩ := id hC
  refine CT.of (by decide) (Nat.le_of_ble_eq_true rfl) ?_
  refine g_al (al2 := [some (.ref (0)), some (.int (iI (i)))]) rfl ?_
  refine g_aload_n (q := 1) rfl rfl dX7_partitions_0 rfl ?_
  refine g_iload_n (q := 2) rfl rfl dX7_partitions_1 rfl ?_
  exact g_Vx (d' := 8) (i := 0) (av := [.int (iI (i))]) (st := []) kvX7_48 (x_X7_listAt l h i hi h0) (by decide) g0 rfl (Nat.le_of_ble_eq_true rfl) ⟨(Nat.le_of_ble_eq_true rfl), (Nat.le_of_ble_eq_true rfl)⟩ ⟨(Nat.le_of_ble_eq_true rfl), (Nat.le_of_ble_eq_true rfl)⟩ rfl rfl dX7_partitions_2 (fun h2 z => xP_in z)
set_option maxRecDepth 4000 in
theorem t_X7_codeLength (l : Launch) (h : EHp) (S : ASt) (sv : List ASt) (hC : CRep h S sv) (i : Nat) (hi : i < 4) : CT l mX7_codeLength 9 0 0 [.ref (0), .int (iI (i))] NN h (rP (.int (iI (szP (S.1 i).1 (S.1 i).2 (pn (S.1 i).1 (S.1 i).2)))) h) := by
  obtain ⟨g0, k1, k2, k4, k5, -⟩ := id hC
  obtain ⟨m, ds, fa, hA, hag, hO, hFO⟩ := k5 i hi trivial
  have hOd := ag_LOk hag hO
  obtain ⟨o1, o2, o3, o4⟩ := id hO
  have em := hFO.pn
  have hm := hFO.1
  refine CT.of (by decide) (Nat.le_of_ble_eq_true rfl) ?_
  refine g_al (al2 := [some (.ref (0)), some (.int (iI (i)))]) rfl ?_
  refine g_aload_n (q := 1) rfl rfl dX7_codeLength_0 rfl ?_
  refine g_iload_n (q := 2) rfl rfl dX7_codeLength_1 rfl ?_
  refine g_Vr (q := 5) (d' := 8) (i := 0) (av := [.int (iI (i))]) (st := []) (v := .ref (5 + 3 * i)) kvX7_48 (t_X7_listAt l h S sv hC i hi) (by decide) g0 rfl (Nat.le_of_ble_eq_true rfl) ⟨(Nat.le_of_ble_eq_true rfl), (Nat.le_of_ble_eq_true rfl)⟩ ⟨(Nat.le_of_ble_eq_true rfl), (Nat.le_of_ble_eq_true rfl)⟩ rfl rfl dX7_codeLength_2 rfl ?_
  refine g_Vr (q := 8) (d' := 1) (i := 5 + 3 * i) (av := []) (st := []) (v := .int (iI (szP (S.1 i).1 (S.1 i).2 (pn (S.1 i).1 (S.1 i).2)))) kvX7_113 (by have := t_X4_codeSize l h (5 + 3 * i) (S.1 i).1 m ds fa hA (by omega); rw [szS_szP hFO m (Nat.le_refl _), em] at this; exact this) (by show _ < 103; omega) hA.1 rfl (Nat.le_of_ble_eq_true rfl) ⟨(Nat.le_of_ble_eq_true rfl), (Nat.le_of_ble_eq_true rfl)⟩ ⟨(Nat.le_of_ble_eq_true rfl), (Nat.le_of_ble_eq_true rfl)⟩ rfl rfl dX7_codeLength_5 rfl ?_
  exact g_ireturn (fun z => NN_f z) (Nat.le_of_ble_eq_true rfl) (Nat.le_of_ble_eq_true rfl) dX7_codeLength_8 rfl rP_in
set_option maxRecDepth 4000 in
theorem x_X7_codeLength (l : Launch) (h : EHp) (S : ASt) (sv : List ASt) (hC : CRep h S sv) (i : Int) (hi : IR i) (h0 : i < 0 ∨ 4 ≤ i) : CT l mX7_codeLength 9 1 6 [.ref (0), .int (iI (i))] NN h (xP eIO (fun h' => h' = h)) := by
  obtain ⟨g0, k1, k2, k4, k5, -⟩ := id hC
  refine CT.of (by decide) (Nat.le_of_ble_eq_true rfl) ?_
  refine g_al (al2 := [some (.ref (0)), some (.int (iI (i)))]) rfl ?_
  refine g_aload_n (q := 1) rfl rfl dX7_codeLength_0 rfl ?_
  refine g_iload_n (q := 2) rfl rfl dX7_codeLength_1 rfl ?_
  exact g_Vx (d' := 8) (i := 0) (av := [.int (iI (i))]) (st := []) kvX7_48 (x_X7_listAt l h i hi h0) (by decide) g0 rfl (Nat.le_of_ble_eq_true rfl) ⟨(Nat.le_of_ble_eq_true rfl), (Nat.le_of_ble_eq_true rfl)⟩ ⟨(Nat.le_of_ble_eq_true rfl), (Nat.le_of_ble_eq_true rfl)⟩ rfl rfl dX7_codeLength_2 (fun h2 z => xP_in z)
set_option maxRecDepth 4000 in
theorem t_X7_document (l : Launch) (h : EHp) (S : ASt) (sv : List ASt) (hC : CRep h S sv) (i : Nat) (hi : i < 4) (j : Int) (j0 : 0 ≤ j) (j1 : j < (S.1 i).1) : CT l mX7_document 9 0 0 [.ref (0), .int (iI (i)), .int (iI (j))] NN h (rP (.int (iI ((S.1 i).2 j))) h) := by
  obtain ⟨g0, k1, k2, k4, k5, -⟩ := id hC
  obtain ⟨m, ds, fa, hA, hag, hO, hFO⟩ := k5 i hi trivial
  have hOd := ag_LOk hag hO
  obtain ⟨o1, o2, o3, o4⟩ := id hO
  have em := hFO.pn
  have hm := hFO.1
  refine CT.of (by decide) (Nat.le_of_ble_eq_true rfl) ?_
  refine g_al (al2 := [some (.ref (0)), some (.int (iI (i))), some (.int (iI (j))), none]) rfl ?_
  refine g_aload_n (q := 1) rfl rfl dX7_document_0 rfl ?_
  refine g_iload_n (q := 2) rfl rfl dX7_document_1 rfl ?_
  refine g_Vr (q := 5) (d' := 8) (i := 0) (av := [.int (iI (i))]) (st := []) (v := .ref (5 + 3 * i)) kvX7_48 (t_X7_listAt l h S sv hC i hi) (by decide) g0 rfl (Nat.le_of_ble_eq_true rfl) ⟨(Nat.le_of_ble_eq_true rfl), (Nat.le_of_ble_eq_true rfl)⟩ ⟨(Nat.le_of_ble_eq_true rfl), (Nat.le_of_ble_eq_true rfl)⟩ rfl rfl dX7_document_2 rfl ?_
  refine g_astore_n (q := 6) (al2 := [some (.ref (0)), some (.int (iI (i))), some (.int (iI (j))), some (.ref (5 + 3 * i))]) rfl (by decide) rfl rfl dX7_document_5 rfl ?_
  refine g_iload_n (q := 7) rfl rfl dX7_document_6 rfl ?_
  refine g_aload_n (q := 8) rfl rfl dX7_document_7 rfl ?_
  refine g_get (q := 11) fX7_69r (by show _ < 103; omega) hA.1 rfl dX7_document_8 rfl ?_
  refine g_Sv (q := 14) (d' := 6) (av := [.int (iI (j)), .int (iI ((S.1 i).1))]) (st := []) ksX7_93 (t_X7_requireIndex l h j (S.1 i).1 ⟨by omega, by omega⟩ ⟨by omega, by omega⟩ j0 j1) rfl (Nat.le_of_ble_eq_true rfl) ⟨(Nat.le_of_ble_eq_true rfl), (Nat.le_of_ble_eq_true rfl)⟩ ⟨(Nat.le_of_ble_eq_true rfl), (Nat.le_of_ble_eq_true rfl)⟩ rfl rfl dX7_document_11 rfl (fun hq1 eq2 => ?_)
  rw [eq2]
  refine g_aload_n (q := 15) rfl rfl dX7_document_14 rfl ?_
  refine g_iload_n (q := 16) rfl rfl dX7_document_15 rfl ?_
  refine g_Vr (q := 19) (d' := 0) (i := 5 + 3 * i) (av := [.int (iI (j))]) (st := []) (v := .int (iI ((S.1 i).2 j))) kvX7_97 (by have := t_X4_documentAt l h (5 + 3 * i) (S.1 i).1 m ds fa hA hOd j ⟨by omega, by omega⟩; rw [ag_dA hag, dA_in j0 j1] at this; exact this) (by show _ < 103; omega) hA.1 rfl (Nat.le_of_ble_eq_true rfl) ⟨(Nat.le_of_ble_eq_true rfl), (Nat.le_of_ble_eq_true rfl)⟩ ⟨(Nat.le_of_ble_eq_true rfl), (Nat.le_of_ble_eq_true rfl)⟩ rfl rfl dX7_document_16 rfl ?_
  exact g_ireturn (fun z => NN_f z) (Nat.le_of_ble_eq_true rfl) (Nat.le_of_ble_eq_true rfl) dX7_document_19 rfl rP_in
set_option maxRecDepth 4000 in
theorem x_X7_document (l : Launch) (h : EHp) (S : ASt) (sv : List ASt) (hC : CRep h S sv) (i : Int) (hi : IR i) (h0 : i < 0 ∨ 4 ≤ i) (j : Int) : CT l mX7_document 9 1 6 [.ref (0), .int (iI (i)), .int (iI (j))] NN h (xP eIO (fun h' => h' = h)) := by
  obtain ⟨g0, k1, k2, k4, k5, -⟩ := id hC
  refine CT.of (by decide) (Nat.le_of_ble_eq_true rfl) ?_
  refine g_al (al2 := [some (.ref (0)), some (.int (iI (i))), some (.int (iI (j))), none]) rfl ?_
  refine g_aload_n (q := 1) rfl rfl dX7_document_0 rfl ?_
  refine g_iload_n (q := 2) rfl rfl dX7_document_1 rfl ?_
  exact g_Vx (d' := 8) (i := 0) (av := [.int (iI (i))]) (st := []) kvX7_48 (x_X7_listAt l h i hi h0) (by decide) g0 rfl (Nat.le_of_ble_eq_true rfl) ⟨(Nat.le_of_ble_eq_true rfl), (Nat.le_of_ble_eq_true rfl)⟩ ⟨(Nat.le_of_ble_eq_true rfl), (Nat.le_of_ble_eq_true rfl)⟩ rfl rfl dX7_document_2 (fun h2 z => xP_in z)
set_option maxRecDepth 4000 in
theorem x2_X7_document (l : Launch) (h : EHp) (S : ASt) (sv : List ASt) (hC : CRep h S sv) (i : Nat) (hi : i < 4) (j : Int) (hj : IR j) (hx : j < 0 ∨ (S.1 i).1 ≤ j) : CT l mX7_document 9 1 6 [.ref (0), .int (iI (i)), .int (iI (j))] NN h (xP eIO (fun h' => h' = h)) := by
  obtain ⟨g0, k1, k2, k4, k5, -⟩ := id hC
  obtain ⟨m, ds, fa, hA, hag, hO, hFO⟩ := k5 i hi trivial
  have hOd := ag_LOk hag hO
  obtain ⟨o1, o2, o3, o4⟩ := id hO
  have em := hFO.pn
  have hm := hFO.1
  refine CT.of (by decide) (Nat.le_of_ble_eq_true rfl) ?_
  refine g_al (al2 := [some (.ref (0)), some (.int (iI (i))), some (.int (iI (j))), none]) rfl ?_
  refine g_aload_n (q := 1) rfl rfl dX7_document_0 rfl ?_
  refine g_iload_n (q := 2) rfl rfl dX7_document_1 rfl ?_
  refine g_Vr (q := 5) (d' := 8) (i := 0) (av := [.int (iI (i))]) (st := []) (v := .ref (5 + 3 * i)) kvX7_48 (t_X7_listAt l h S sv hC i hi) (by decide) g0 rfl (Nat.le_of_ble_eq_true rfl) ⟨(Nat.le_of_ble_eq_true rfl), (Nat.le_of_ble_eq_true rfl)⟩ ⟨(Nat.le_of_ble_eq_true rfl), (Nat.le_of_ble_eq_true rfl)⟩ rfl rfl dX7_document_2 rfl ?_
  refine g_astore_n (q := 6) (al2 := [some (.ref (0)), some (.int (iI (i))), some (.int (iI (j))), some (.ref (5 + 3 * i))]) rfl (by decide) rfl rfl dX7_document_5 rfl ?_
  refine g_iload_n (q := 7) rfl rfl dX7_document_6 rfl ?_
  refine g_aload_n (q := 8) rfl rfl dX7_document_7 rfl ?_
  refine g_get (q := 11) fX7_69r (by show _ < 103; omega) hA.1 rfl dX7_document_8 rfl ?_
  exact g_Sx (d' := 6) (av := [.int (iI (j)), .int (iI ((S.1 i).1))]) (st := []) ksX7_93 (x_X7_requireIndex l h j (S.1 i).1 hj ⟨by omega, by omega⟩ hx) rfl (Nat.le_of_ble_eq_true rfl) ⟨(Nat.le_of_ble_eq_true rfl), (Nat.le_of_ble_eq_true rfl)⟩ ⟨(Nat.le_of_ble_eq_true rfl), (Nat.le_of_ble_eq_true rfl)⟩ rfl rfl dX7_document_11 (fun h2 z => xP_in z)
set_option maxRecDepth 4000 in
theorem t_X7_rank (l : Launch) (h : EHp) (S : ASt) (sv : List ASt) (hC : CRep h S sv) (i : Nat) (hi : i < 4) (x : Int) (j0 : 0 ≤ x) (j1 : x ≤ 512) : CT l mX7_rank 9 0 0 [.ref (0), .int (iI (i)), .int (iI (x))] NN h (rP (.int (iI (cb (S.1 i).1 (S.1 i).2 x))) h) := by
  obtain ⟨g0, k1, k2, k4, k5, -⟩ := id hC
  obtain ⟨m, ds, fa, hA, hag, hO, hFO⟩ := k5 i hi trivial
  have hOd := ag_LOk hag hO
  obtain ⟨o1, o2, o3, o4⟩ := id hO
  have em := hFO.pn
  have hm := hFO.1
  refine CT.of (by decide) (Nat.le_of_ble_eq_true rfl) ?_
  refine g_al (al2 := [some (.ref (0)), some (.int (iI (i))), some (.int (iI (x))), none]) rfl ?_
  refine g_aload_n (q := 1) rfl rfl dX7_rank_0 rfl ?_
  refine g_iload_n (q := 2) rfl rfl dX7_rank_1 rfl ?_
  refine g_Vr (q := 5) (d' := 8) (i := 0) (av := [.int (iI (i))]) (st := []) (v := .ref (5 + 3 * i)) kvX7_48 (t_X7_listAt l h S sv hC i hi) (by decide) g0 rfl (Nat.le_of_ble_eq_true rfl) ⟨(Nat.le_of_ble_eq_true rfl), (Nat.le_of_ble_eq_true rfl)⟩ ⟨(Nat.le_of_ble_eq_true rfl), (Nat.le_of_ble_eq_true rfl)⟩ rfl rfl dX7_rank_2 rfl ?_
  refine g_astore_n (q := 6) (al2 := [some (.ref (0)), some (.int (iI (i))), some (.int (iI (x))), some (.ref (5 + 3 * i))]) rfl (by decide) rfl rfl dX7_rank_5 rfl ?_
  refine g_iload_n (q := 7) rfl rfl dX7_rank_6 rfl ?_
  refine g_iconst (q := 8) dX7_rank_7 rfl ?_
  refine g_sipush (q := 11) (by decide) dX7_rank_8 rfl ?_
  refine g_Sv (q := 14) (d' := 6) (av := [.int (iI (x)), .int (iI (0)), .int (iI (512))]) (st := []) ksX7_101 (t_X7_requireBetween l h x 0 512 ⟨by omega, by omega⟩ (by decide) (by decide) j0 j1) rfl (Nat.le_of_ble_eq_true rfl) ⟨(Nat.le_of_ble_eq_true rfl), (Nat.le_of_ble_eq_true rfl)⟩ ⟨(Nat.le_of_ble_eq_true rfl), (Nat.le_of_ble_eq_true rfl)⟩ rfl rfl dX7_rank_11 rfl (fun hq1 eq2 => ?_)
  rw [eq2]
  refine g_aload_n (q := 15) rfl rfl dX7_rank_14 rfl ?_
  refine g_iload_n (q := 16) rfl rfl dX7_rank_15 rfl ?_
  refine g_Vr (q := 19) (d' := 0) (i := 5 + 3 * i) (av := [.int (iI (x))]) (st := []) (v := .int (iI (cb (S.1 i).1 (S.1 i).2 x))) kvX7_104 (by have := t_X4_countBelow l h (5 + 3 * i) (S.1 i).1 m ds fa hA hOd x ⟨by omega, by omega⟩; rw [ag_cb hag o1] at this; exact this) (by show _ < 103; omega) hA.1 rfl (Nat.le_of_ble_eq_true rfl) ⟨(Nat.le_of_ble_eq_true rfl), (Nat.le_of_ble_eq_true rfl)⟩ ⟨(Nat.le_of_ble_eq_true rfl), (Nat.le_of_ble_eq_true rfl)⟩ rfl rfl dX7_rank_16 rfl ?_
  exact g_ireturn (fun z => NN_f z) (Nat.le_of_ble_eq_true rfl) (Nat.le_of_ble_eq_true rfl) dX7_rank_19 rfl rP_in
set_option maxRecDepth 4000 in
theorem x_X7_rank (l : Launch) (h : EHp) (S : ASt) (sv : List ASt) (hC : CRep h S sv) (i : Int) (hi : IR i) (h0 : i < 0 ∨ 4 ≤ i) (x : Int) : CT l mX7_rank 9 1 6 [.ref (0), .int (iI (i)), .int (iI (x))] NN h (xP eIO (fun h' => h' = h)) := by
  obtain ⟨g0, k1, k2, k4, k5, -⟩ := id hC
  refine CT.of (by decide) (Nat.le_of_ble_eq_true rfl) ?_
  refine g_al (al2 := [some (.ref (0)), some (.int (iI (i))), some (.int (iI (x))), none]) rfl ?_
  refine g_aload_n (q := 1) rfl rfl dX7_rank_0 rfl ?_
  refine g_iload_n (q := 2) rfl rfl dX7_rank_1 rfl ?_
  exact g_Vx (d' := 8) (i := 0) (av := [.int (iI (i))]) (st := []) kvX7_48 (x_X7_listAt l h i hi h0) (by decide) g0 rfl (Nat.le_of_ble_eq_true rfl) ⟨(Nat.le_of_ble_eq_true rfl), (Nat.le_of_ble_eq_true rfl)⟩ ⟨(Nat.le_of_ble_eq_true rfl), (Nat.le_of_ble_eq_true rfl)⟩ rfl rfl dX7_rank_2 (fun h2 z => xP_in z)
set_option maxRecDepth 4000 in
theorem x2_X7_rank (l : Launch) (h : EHp) (S : ASt) (sv : List ASt) (hC : CRep h S sv) (i : Nat) (hi : i < 4) (x : Int) (hj : IR x) (hx : x < 0 ∨ 512 < x) : CT l mX7_rank 9 1 6 [.ref (0), .int (iI (i)), .int (iI (x))] NN h (xP eIA (fun h' => h' = h)) := by
  obtain ⟨g0, k1, k2, k4, k5, -⟩ := id hC
  obtain ⟨m, ds, fa, hA, hag, hO, hFO⟩ := k5 i hi trivial
  have hOd := ag_LOk hag hO
  obtain ⟨o1, o2, o3, o4⟩ := id hO
  have em := hFO.pn
  have hm := hFO.1
  refine CT.of (by decide) (Nat.le_of_ble_eq_true rfl) ?_
  refine g_al (al2 := [some (.ref (0)), some (.int (iI (i))), some (.int (iI (x))), none]) rfl ?_
  refine g_aload_n (q := 1) rfl rfl dX7_rank_0 rfl ?_
  refine g_iload_n (q := 2) rfl rfl dX7_rank_1 rfl ?_
  refine g_Vr (q := 5) (d' := 8) (i := 0) (av := [.int (iI (i))]) (st := []) (v := .ref (5 + 3 * i)) kvX7_48 (t_X7_listAt l h S sv hC i hi) (by decide) g0 rfl (Nat.le_of_ble_eq_true rfl) ⟨(Nat.le_of_ble_eq_true rfl), (Nat.le_of_ble_eq_true rfl)⟩ ⟨(Nat.le_of_ble_eq_true rfl), (Nat.le_of_ble_eq_true rfl)⟩ rfl rfl dX7_rank_2 rfl ?_
  refine g_astore_n (q := 6) (al2 := [some (.ref (0)), some (.int (iI (i))), some (.int (iI (x))), some (.ref (5 + 3 * i))]) rfl (by decide) rfl rfl dX7_rank_5 rfl ?_
  refine g_iload_n (q := 7) rfl rfl dX7_rank_6 rfl ?_
  refine g_iconst (q := 8) dX7_rank_7 rfl ?_
  refine g_sipush (q := 11) (by decide) dX7_rank_8 rfl ?_
  exact g_Sx (d' := 6) (av := [.int (iI (x)), .int (iI (0)), .int (iI (512))]) (st := []) ksX7_101 (x_X7_requireBetween l h x 0 512 hj (by decide) (by decide) hx) rfl (Nat.le_of_ble_eq_true rfl) ⟨(Nat.le_of_ble_eq_true rfl), (Nat.le_of_ble_eq_true rfl)⟩ ⟨(Nat.le_of_ble_eq_true rfl), (Nat.le_of_ble_eq_true rfl)⟩ rfl rfl dX7_rank_11 (fun h2 z => xP_in z)
set_option maxRecDepth 4000 in
theorem t_X7_fixedLength (l : Launch) (h : EHp) (S : ASt) (sv : List ASt) (hC : CRep h S sv) (i : Nat) (hi : i < 4) (x : Int) (j0 : 1 ≤ x) (j1 : x ≤ 64) : CT l mX7_fixedLength 9 0 0 [.ref (0), .int (iI (i)), .int (iI (x))] NN h (rP (.int (iI (flen (S.1 i).1 (S.1 i).2 x))) h) := by
  obtain ⟨g0, k1, k2, k4, k5, -⟩ := id hC
  obtain ⟨m, ds, fa, hA, hag, hO, hFO⟩ := k5 i hi trivial
  have hOd := ag_LOk hag hO
  obtain ⟨o1, o2, o3, o4⟩ := id hO
  have em := hFO.pn
  have hm := hFO.1
  refine CT.of (by decide) (Nat.le_of_ble_eq_true rfl) ?_
  refine g_al (al2 := [some (.ref (0)), some (.int (iI (i))), some (.int (iI (x))), none]) rfl ?_
  refine g_aload_n (q := 1) rfl rfl dX7_fixedLength_0 rfl ?_
  refine g_iload_n (q := 2) rfl rfl dX7_fixedLength_1 rfl ?_
  refine g_Vr (q := 5) (d' := 8) (i := 0) (av := [.int (iI (i))]) (st := []) (v := .ref (5 + 3 * i)) kvX7_48 (t_X7_listAt l h S sv hC i hi) (by decide) g0 rfl (Nat.le_of_ble_eq_true rfl) ⟨(Nat.le_of_ble_eq_true rfl), (Nat.le_of_ble_eq_true rfl)⟩ ⟨(Nat.le_of_ble_eq_true rfl), (Nat.le_of_ble_eq_true rfl)⟩ rfl rfl dX7_fixedLength_2 rfl ?_
  refine g_astore_n (q := 6) (al2 := [some (.ref (0)), some (.int (iI (i))), some (.int (iI (x))), some (.ref (5 + 3 * i))]) rfl (by decide) rfl rfl dX7_fixedLength_5 rfl ?_
  refine g_iload_n (q := 7) rfl rfl dX7_fixedLength_6 rfl ?_
  refine g_iconst (q := 8) dX7_fixedLength_7 rfl ?_
  refine g_bipush (q := 10) (by decide) dX7_fixedLength_8 rfl ?_
  refine g_Sv (q := 13) (d' := 6) (av := [.int (iI (x)), .int (iI (1)), .int (iI (64))]) (st := []) ksX7_101 (t_X7_requireBetween l h x 1 64 ⟨by omega, by omega⟩ (by decide) (by decide) j0 j1) rfl (Nat.le_of_ble_eq_true rfl) ⟨(Nat.le_of_ble_eq_true rfl), (Nat.le_of_ble_eq_true rfl)⟩ ⟨(Nat.le_of_ble_eq_true rfl), (Nat.le_of_ble_eq_true rfl)⟩ rfl rfl dX7_fixedLength_10 rfl (fun hq1 eq2 => ?_)
  rw [eq2]
  refine g_aload_n (q := 14) rfl rfl dX7_fixedLength_13 rfl ?_
  refine g_iload_n (q := 15) rfl rfl dX7_fixedLength_14 rfl ?_
  refine g_Vr (q := 18) (d' := 2) (i := 5 + 3 * i) (av := [.int (iI (x))]) (st := []) (v := .int (iI (flen (S.1 i).1 (S.1 i).2 x))) kvX7_123 (by have := t_X4_sizeInParts l h (5 + 3 * i) (S.1 i).1 m ds fa hA hOd x j0 j1; rw [ag_flen hag j0] at this; exact this) (by show _ < 103; omega) hA.1 rfl (Nat.le_of_ble_eq_true rfl) ⟨(Nat.le_of_ble_eq_true rfl), (Nat.le_of_ble_eq_true rfl)⟩ ⟨(Nat.le_of_ble_eq_true rfl), (Nat.le_of_ble_eq_true rfl)⟩ rfl rfl dX7_fixedLength_15 rfl ?_
  exact g_ireturn (fun z => NN_f z) (Nat.le_of_ble_eq_true rfl) (Nat.le_of_ble_eq_true rfl) dX7_fixedLength_18 rfl rP_in
set_option maxRecDepth 4000 in
theorem x_X7_fixedLength (l : Launch) (h : EHp) (S : ASt) (sv : List ASt) (hC : CRep h S sv) (i : Int) (hi : IR i) (h0 : i < 0 ∨ 4 ≤ i) (x : Int) : CT l mX7_fixedLength 9 1 6 [.ref (0), .int (iI (i)), .int (iI (x))] NN h (xP eIO (fun h' => h' = h)) := by
  obtain ⟨g0, k1, k2, k4, k5, -⟩ := id hC
  refine CT.of (by decide) (Nat.le_of_ble_eq_true rfl) ?_
  refine g_al (al2 := [some (.ref (0)), some (.int (iI (i))), some (.int (iI (x))), none]) rfl ?_
  refine g_aload_n (q := 1) rfl rfl dX7_fixedLength_0 rfl ?_
  refine g_iload_n (q := 2) rfl rfl dX7_fixedLength_1 rfl ?_
  exact g_Vx (d' := 8) (i := 0) (av := [.int (iI (i))]) (st := []) kvX7_48 (x_X7_listAt l h i hi h0) (by decide) g0 rfl (Nat.le_of_ble_eq_true rfl) ⟨(Nat.le_of_ble_eq_true rfl), (Nat.le_of_ble_eq_true rfl)⟩ ⟨(Nat.le_of_ble_eq_true rfl), (Nat.le_of_ble_eq_true rfl)⟩ rfl rfl dX7_fixedLength_2 (fun h2 z => xP_in z)
set_option maxRecDepth 4000 in
theorem x2_X7_fixedLength (l : Launch) (h : EHp) (S : ASt) (sv : List ASt) (hC : CRep h S sv) (i : Nat) (hi : i < 4) (x : Int) (hj : IR x) (hx : x < 1 ∨ 64 < x) : CT l mX7_fixedLength 9 1 6 [.ref (0), .int (iI (i)), .int (iI (x))] NN h (xP eIA (fun h' => h' = h)) := by
  obtain ⟨g0, k1, k2, k4, k5, -⟩ := id hC
  obtain ⟨m, ds, fa, hA, hag, hO, hFO⟩ := k5 i hi trivial
  have hOd := ag_LOk hag hO
  obtain ⟨o1, o2, o3, o4⟩ := id hO
  have em := hFO.pn
  have hm := hFO.1
  refine CT.of (by decide) (Nat.le_of_ble_eq_true rfl) ?_
  refine g_al (al2 := [some (.ref (0)), some (.int (iI (i))), some (.int (iI (x))), none]) rfl ?_
  refine g_aload_n (q := 1) rfl rfl dX7_fixedLength_0 rfl ?_
  refine g_iload_n (q := 2) rfl rfl dX7_fixedLength_1 rfl ?_
  refine g_Vr (q := 5) (d' := 8) (i := 0) (av := [.int (iI (i))]) (st := []) (v := .ref (5 + 3 * i)) kvX7_48 (t_X7_listAt l h S sv hC i hi) (by decide) g0 rfl (Nat.le_of_ble_eq_true rfl) ⟨(Nat.le_of_ble_eq_true rfl), (Nat.le_of_ble_eq_true rfl)⟩ ⟨(Nat.le_of_ble_eq_true rfl), (Nat.le_of_ble_eq_true rfl)⟩ rfl rfl dX7_fixedLength_2 rfl ?_
  refine g_astore_n (q := 6) (al2 := [some (.ref (0)), some (.int (iI (i))), some (.int (iI (x))), some (.ref (5 + 3 * i))]) rfl (by decide) rfl rfl dX7_fixedLength_5 rfl ?_
  refine g_iload_n (q := 7) rfl rfl dX7_fixedLength_6 rfl ?_
  refine g_iconst (q := 8) dX7_fixedLength_7 rfl ?_
  refine g_bipush (q := 10) (by decide) dX7_fixedLength_8 rfl ?_
  exact g_Sx (d' := 6) (av := [.int (iI (x)), .int (iI (1)), .int (iI (64))]) (st := []) ksX7_101 (x_X7_requireBetween l h x 1 64 hj (by decide) (by decide) hx) rfl (Nat.le_of_ble_eq_true rfl) ⟨(Nat.le_of_ble_eq_true rfl), (Nat.le_of_ble_eq_true rfl)⟩ ⟨(Nat.le_of_ble_eq_true rfl), (Nat.le_of_ble_eq_true rfl)⟩ rfl rfl dX7_fixedLength_10 (fun h2 z => xP_in z)
set_option maxRecDepth 4000 in
theorem t_X7_partition (l : Launch) (h : EHp) (S : ASt) (sv : List ASt) (hC : CRep h S sv) (i : Nat) (hi : i < 4) (k : Nat) (t : Int) (hk : k < pn (S.1 i).1 (S.1 i).2) (t0 : 0 ≤ t) (t5 : t ≤ 5) : CT l mX7_partition 9 0 0 [.ref (0), .int (iI (i)), .int (iI (k)), .int (iI (t))] NN h (rP (.int (iI (fct (S.1 i).2 (pb (S.1 i).1 (S.1 i).2 k) (pb (S.1 i).1 (S.1 i).2 (k + 1)) t))) h) := by
  obtain ⟨g0, k1, k2, k4, k5, -⟩ := id hC
  obtain ⟨m, ds, fa, hA, hag, hO, hFO⟩ := k5 i hi trivial
  have hOd := ag_LOk hag hO
  obtain ⟨o1, o2, o3, o4⟩ := id hO
  have em := hFO.pn
  have hm := hFO.1
  refine CT.of (by decide) (Nat.le_of_ble_eq_true rfl) ?_
  refine g_al (al2 := [some (.ref (0)), some (.int (iI (i))), some (.int (iI (k))), some (.int (iI (t))), none]) rfl ?_
  rw [← em] at hk
  refine g_aload_n (q := 1) rfl rfl dX7_partition_0 rfl ?_
  refine g_iload_n (q := 2) rfl rfl dX7_partition_1 rfl ?_
  refine g_Vr (q := 5) (d' := 8) (i := 0) (av := [.int (iI (i))]) (st := []) (v := .ref (5 + 3 * i)) kvX7_48 (t_X7_listAt l h S sv hC i hi) (by decide) g0 rfl (Nat.le_of_ble_eq_true rfl) ⟨(Nat.le_of_ble_eq_true rfl), (Nat.le_of_ble_eq_true rfl)⟩ ⟨(Nat.le_of_ble_eq_true rfl), (Nat.le_of_ble_eq_true rfl)⟩ rfl rfl dX7_partition_2 rfl ?_
  refine g_astore (q := 7) (al2 := [some (.ref (0)), some (.int (iI (i))), some (.int (iI (k))), some (.int (iI (t))), some (.ref (5 + 3 * i))]) (by decide) rfl rfl dX7_partition_5 rfl ?_
  refine g_iload_n (q := 8) rfl rfl dX7_partition_7 rfl ?_
  refine g_aload (q := 10) rfl dX7_partition_8 rfl ?_
  refine g_get (q := 13) fX7_107r (by show _ < 103; omega) hA.1 rfl dX7_partition_10 rfl ?_
  refine g_Sv (q := 16) (d' := 6) (av := [.int (iI (k)), .int (iI (m))]) (st := []) ksX7_93 (t_X7_requireIndex l h k m ⟨by omega, by omega⟩ ⟨by omega, by omega⟩ (by omega) (by omega)) rfl (Nat.le_of_ble_eq_true rfl) ⟨(Nat.le_of_ble_eq_true rfl), (Nat.le_of_ble_eq_true rfl)⟩ ⟨(Nat.le_of_ble_eq_true rfl), (Nat.le_of_ble_eq_true rfl)⟩ rfl rfl dX7_partition_13 rfl (fun hq1 eq2 => ?_)
  rw [eq2]
  refine g_iload_n (q := 17) rfl rfl dX7_partition_16 rfl ?_
  refine g_iconst (q := 18) dX7_partition_17 rfl ?_
  refine g_iconst (q := 19) dX7_partition_18 rfl ?_
  refine g_Sv (q := 22) (d' := 6) (av := [.int (iI (t)), .int (iI (0)), .int (iI (5))]) (st := []) ksX7_101 (t_X7_requireBetween l h t 0 5 ⟨by omega, by omega⟩ (by decide) (by decide) t0 t5) rfl (Nat.le_of_ble_eq_true rfl) ⟨(Nat.le_of_ble_eq_true rfl), (Nat.le_of_ble_eq_true rfl)⟩ ⟨(Nat.le_of_ble_eq_true rfl), (Nat.le_of_ble_eq_true rfl)⟩ rfl rfl dX7_partition_19 rfl (fun hq3 eq4 => ?_)
  rw [eq4]
  refine g_aload (q := 24) rfl dX7_partition_22 rfl ?_
  refine g_iload_n (q := 25) rfl rfl dX7_partition_24 rfl ?_
  refine g_iload_n (q := 26) rfl rfl dX7_partition_25 rfl ?_
  refine g_Vr (q := 29) (d' := 0) (i := 5 + 3 * i) (av := [.int (iI (k)), .int (iI (t))]) (st := []) (v := .int (iI (fct (S.1 i).2 (pb (S.1 i).1 (S.1 i).2 k) (pb (S.1 i).1 (S.1 i).2 (k + 1)) t))) kvX7_110 (by have := t_X4_factOf l h (5 + 3 * i) (S.1 i).1 m ds fa hA k t (by omega) (by omega) t0 (by omega); rw [hFO.2.2.2 k hk t t0 (by omega)] at this; exact this) (by show _ < 103; omega) hA.1 rfl (Nat.le_of_ble_eq_true rfl) ⟨(Nat.le_of_ble_eq_true rfl), (Nat.le_of_ble_eq_true rfl)⟩ ⟨(Nat.le_of_ble_eq_true rfl), (Nat.le_of_ble_eq_true rfl)⟩ rfl rfl dX7_partition_26 rfl ?_
  exact g_ireturn (fun z => NN_f z) (Nat.le_of_ble_eq_true rfl) (Nat.le_of_ble_eq_true rfl) dX7_partition_29 rfl rP_in
set_option maxRecDepth 4000 in
theorem x_X7_partition (l : Launch) (h : EHp) (S : ASt) (sv : List ASt) (hC : CRep h S sv) (i : Int) (hi : IR i) (h0 : i < 0 ∨ 4 ≤ i) (k t : Int) : CT l mX7_partition 9 1 6 [.ref (0), .int (iI (i)), .int (iI (k)), .int (iI (t))] NN h (xP eIO (fun h' => h' = h)) := by
  obtain ⟨g0, k1, k2, k4, k5, -⟩ := id hC
  refine CT.of (by decide) (Nat.le_of_ble_eq_true rfl) ?_
  refine g_al (al2 := [some (.ref (0)), some (.int (iI (i))), some (.int (iI (k))), some (.int (iI (t))), none]) rfl ?_
  refine g_aload_n (q := 1) rfl rfl dX7_partition_0 rfl ?_
  refine g_iload_n (q := 2) rfl rfl dX7_partition_1 rfl ?_
  exact g_Vx (d' := 8) (i := 0) (av := [.int (iI (i))]) (st := []) kvX7_48 (x_X7_listAt l h i hi h0) (by decide) g0 rfl (Nat.le_of_ble_eq_true rfl) ⟨(Nat.le_of_ble_eq_true rfl), (Nat.le_of_ble_eq_true rfl)⟩ ⟨(Nat.le_of_ble_eq_true rfl), (Nat.le_of_ble_eq_true rfl)⟩ rfl rfl dX7_partition_2 (fun h2 z => xP_in z)
set_option maxRecDepth 4000 in
theorem x2_X7_partition (l : Launch) (h : EHp) (S : ASt) (sv : List ASt) (hC : CRep h S sv) (i : Nat) (hi : i < 4) (k t : Int) (hj : IR k) (hx : k < 0 ∨ (pn (S.1 i).1 (S.1 i).2 : Int) ≤ k) : CT l mX7_partition 9 1 6 [.ref (0), .int (iI (i)), .int (iI (k)), .int (iI (t))] NN h (xP eIO (fun h' => h' = h)) := by
  obtain ⟨g0, k1, k2, k4, k5, -⟩ := id hC
  obtain ⟨m, ds, fa, hA, hag, hO, hFO⟩ := k5 i hi trivial
  have hOd := ag_LOk hag hO
  obtain ⟨o1, o2, o3, o4⟩ := id hO
  have em := hFO.pn
  have hm := hFO.1
  refine CT.of (by decide) (Nat.le_of_ble_eq_true rfl) ?_
  refine g_al (al2 := [some (.ref (0)), some (.int (iI (i))), some (.int (iI (k))), some (.int (iI (t))), none]) rfl ?_
  rw [← em] at hx
  refine g_aload_n (q := 1) rfl rfl dX7_partition_0 rfl ?_
  refine g_iload_n (q := 2) rfl rfl dX7_partition_1 rfl ?_
  refine g_Vr (q := 5) (d' := 8) (i := 0) (av := [.int (iI (i))]) (st := []) (v := .ref (5 + 3 * i)) kvX7_48 (t_X7_listAt l h S sv hC i hi) (by decide) g0 rfl (Nat.le_of_ble_eq_true rfl) ⟨(Nat.le_of_ble_eq_true rfl), (Nat.le_of_ble_eq_true rfl)⟩ ⟨(Nat.le_of_ble_eq_true rfl), (Nat.le_of_ble_eq_true rfl)⟩ rfl rfl dX7_partition_2 rfl ?_
  refine g_astore (q := 7) (al2 := [some (.ref (0)), some (.int (iI (i))), some (.int (iI (k))), some (.int (iI (t))), some (.ref (5 + 3 * i))]) (by decide) rfl rfl dX7_partition_5 rfl ?_
  refine g_iload_n (q := 8) rfl rfl dX7_partition_7 rfl ?_
  refine g_aload (q := 10) rfl dX7_partition_8 rfl ?_
  refine g_get (q := 13) fX7_107r (by show _ < 103; omega) hA.1 rfl dX7_partition_10 rfl ?_
  exact g_Sx (d' := 6) (av := [.int (iI (k)), .int (iI (m))]) (st := []) ksX7_93 (x_X7_requireIndex l h k m hj ⟨by omega, by omega⟩ hx) rfl (Nat.le_of_ble_eq_true rfl) ⟨(Nat.le_of_ble_eq_true rfl), (Nat.le_of_ble_eq_true rfl)⟩ ⟨(Nat.le_of_ble_eq_true rfl), (Nat.le_of_ble_eq_true rfl)⟩ rfl rfl dX7_partition_13 (fun h2 z => xP_in z)
set_option maxRecDepth 4000 in
theorem x3_X7_partition (l : Launch) (h : EHp) (S : ASt) (sv : List ASt) (hC : CRep h S sv) (i : Nat) (hi : i < 4) (k t : Int) (hj : IR t) (k0 : 0 ≤ k) (hk : k < pn (S.1 i).1 (S.1 i).2) (hx : t < 0 ∨ 5 < t) : CT l mX7_partition 9 1 6 [.ref (0), .int (iI (i)), .int (iI (k)), .int (iI (t))] NN h (xP eIA (fun h' => h' = h)) := by
  obtain ⟨g0, k1, k2, k4, k5, -⟩ := id hC
  obtain ⟨m, ds, fa, hA, hag, hO, hFO⟩ := k5 i hi trivial
  have hOd := ag_LOk hag hO
  obtain ⟨o1, o2, o3, o4⟩ := id hO
  have em := hFO.pn
  have hm := hFO.1
  refine CT.of (by decide) (Nat.le_of_ble_eq_true rfl) ?_
  refine g_al (al2 := [some (.ref (0)), some (.int (iI (i))), some (.int (iI (k))), some (.int (iI (t))), none]) rfl ?_
  rw [← em] at hk
  refine g_aload_n (q := 1) rfl rfl dX7_partition_0 rfl ?_
  refine g_iload_n (q := 2) rfl rfl dX7_partition_1 rfl ?_
  refine g_Vr (q := 5) (d' := 8) (i := 0) (av := [.int (iI (i))]) (st := []) (v := .ref (5 + 3 * i)) kvX7_48 (t_X7_listAt l h S sv hC i hi) (by decide) g0 rfl (Nat.le_of_ble_eq_true rfl) ⟨(Nat.le_of_ble_eq_true rfl), (Nat.le_of_ble_eq_true rfl)⟩ ⟨(Nat.le_of_ble_eq_true rfl), (Nat.le_of_ble_eq_true rfl)⟩ rfl rfl dX7_partition_2 rfl ?_
  refine g_astore (q := 7) (al2 := [some (.ref (0)), some (.int (iI (i))), some (.int (iI (k))), some (.int (iI (t))), some (.ref (5 + 3 * i))]) (by decide) rfl rfl dX7_partition_5 rfl ?_
  refine g_iload_n (q := 8) rfl rfl dX7_partition_7 rfl ?_
  refine g_aload (q := 10) rfl dX7_partition_8 rfl ?_
  refine g_get (q := 13) fX7_107r (by show _ < 103; omega) hA.1 rfl dX7_partition_10 rfl ?_
  refine g_Sv (q := 16) (d' := 6) (av := [.int (iI (k)), .int (iI (m))]) (st := []) ksX7_93 (t_X7_requireIndex l h k m ⟨by omega, by omega⟩ ⟨by omega, by omega⟩ k0 hk) rfl (Nat.le_of_ble_eq_true rfl) ⟨(Nat.le_of_ble_eq_true rfl), (Nat.le_of_ble_eq_true rfl)⟩ ⟨(Nat.le_of_ble_eq_true rfl), (Nat.le_of_ble_eq_true rfl)⟩ rfl rfl dX7_partition_13 rfl (fun hq1 eq2 => ?_)
  rw [eq2]
  refine g_iload_n (q := 17) rfl rfl dX7_partition_16 rfl ?_
  refine g_iconst (q := 18) dX7_partition_17 rfl ?_
  refine g_iconst (q := 19) dX7_partition_18 rfl ?_
  exact g_Sx (d' := 6) (av := [.int (iI (t)), .int (iI (0)), .int (iI (5))]) (st := []) ksX7_101 (x_X7_requireBetween l h t 0 5 hj (by decide) (by decide) hx) rfl (Nat.le_of_ble_eq_true rfl) ⟨(Nat.le_of_ble_eq_true rfl), (Nat.le_of_ble_eq_true rfl)⟩ ⟨(Nat.le_of_ble_eq_true rfl), (Nat.le_of_ble_eq_true rfl)⟩ rfl rfl dX7_partition_19 (fun h2 z => xP_in z)
set_option maxRecDepth 4000 in
theorem t_X7_reads (l : Launch) (h : EHp) (S : ASt) (sv : List ASt) (hC : CRep h S sv) : CT l mX7_reads 0 0 0 [.ref (0)] NN h (rP (.int (iI S.2.2.2.1)) h) := by
  obtain ⟨g0, k1, k2, k4, k5, -⟩ := id hC
  refine CT.of (by decide) (Nat.le_of_ble_eq_true rfl) ?_
  refine g_al (al2 := [some (.ref (0))]) rfl ?_
  refine g_aload_n (q := 1) rfl rfl dX7_reads_0 rfl ?_
  refine g_get (q := 4) fX7_12r (by decide) g0 rfl dX7_reads_1 rfl ?_
  refine g_get (q := 7) fX7_147r (by decide) k1 rfl dX7_reads_4 rfl ?_
  exact g_ireturn (fun z => NN_f z) (Nat.le_of_ble_eq_true rfl) (Nat.le_of_ble_eq_true rfl) dX7_reads_7 rfl rP_in
set_option maxRecDepth 4000 in
theorem t_X7_hits (l : Launch) (h : EHp) (S : ASt) (sv : List ASt) (hC : CRep h S sv) : CT l mX7_hits 0 0 0 [.ref (0)] NN h (rP (.int (iI S.2.2.2.2)) h) := by
  obtain ⟨g0, k1, k2, k4, k5, -⟩ := id hC
  refine CT.of (by decide) (Nat.le_of_ble_eq_true rfl) ?_
  refine g_al (al2 := [some (.ref (0))]) rfl ?_
  refine g_aload_n (q := 1) rfl rfl dX7_hits_0 rfl ?_
  refine g_get (q := 4) fX7_12r (by decide) g0 rfl dX7_hits_1 rfl ?_
  refine g_get (q := 7) fX7_150r (by decide) k1 rfl dX7_hits_4 rfl ?_
  exact g_ireturn (fun z => NN_f z) (Nat.le_of_ble_eq_true rfl) (Nat.le_of_ble_eq_true rfl) dX7_hits_7 rfl rP_in
set_option maxRecDepth 4000 in
theorem t_X7_cached (l : Launch) (h : EHp) (S : ASt) (sv : List ASt) (hC : CRep h S sv) : CT l mX7_cached 0 0 0 [.ref (0)] NN h (rP (.int (iI S.2.2.1.length)) h) := by
  obtain ⟨g0, k1, k2, k4, k5, -⟩ := id hC
  obtain ⟨ks, q1, q2, -, q4, q5, q6, q7, q8⟩ := id k4
  refine CT.of (by decide) (Nat.le_of_ble_eq_true rfl) ?_
  refine g_al (al2 := [some (.ref (0))]) rfl ?_
  refine g_aload_n (q := 1) rfl rfl dX7_cached_0 rfl ?_
  refine g_get (q := 4) fX7_12r (by decide) g0 rfl dX7_cached_1 rfl ?_
  refine g_get (q := 7) fX7_153r (by decide) k1 rfl dX7_cached_4 rfl ?_
  refine g_get (q := 10) fX7_165r (by decide) q1 rfl dX7_cached_7 rfl ?_
  exact g_ireturn (fun z => NN_f z) (Nat.le_of_ble_eq_true rfl) (Nat.le_of_ble_eq_true rfl) dX7_cached_10 rfl rP_in
set_option maxRecDepth 4000 in
theorem t_X7_cachedAt (l : Launch) (h : EHp) (S : ASt) (sv : List ASt) (hC : CRep h S sv) (k : Nat) (v : Int) (hk : S.2.2.1[k]? = some v) : CT l mX7_cachedAt 7 0 0 [.ref (0), .int (iI (k))] NN h (rP (.int (iI v)) h) := by
  obtain ⟨g0, k1, k2, k4, k5, -⟩ := id hC
  obtain ⟨ks, q1, q2, -, q4, q5, q6, q7, q8⟩ := id k4
  have hl := (List.getElem?_eq_some_iff.mp hk).1
  have ev := q4 k v hk
  refine CT.of (by decide) (Nat.le_of_ble_eq_true rfl) ?_
  refine g_al (al2 := [some (.ref (0)), some (.int (iI (k)))]) rfl ?_
  refine g_iload_n (q := 1) rfl rfl dX7_cachedAt_0 rfl ?_
  refine g_aload_n (q := 2) rfl rfl dX7_cachedAt_1 rfl ?_
  refine g_get (q := 5) fX7_12r (by decide) g0 rfl dX7_cachedAt_2 rfl ?_
  refine g_get (q := 8) fX7_153r (by decide) k1 rfl dX7_cachedAt_5 rfl ?_
  refine g_get (q := 11) fX7_165r (by decide) q1 rfl dX7_cachedAt_8 rfl ?_
  refine g_Sv (q := 14) (d' := 6) (av := [.int (iI (k)), .int (iI (S.2.2.1.length))]) (st := []) ksX7_93 (t_X7_requireIndex l h k S.2.2.1.length ⟨by omega, by omega⟩ ⟨by omega, by omega⟩ (by omega) (by omega)) rfl (Nat.le_of_ble_eq_true rfl) ⟨(Nat.le_of_ble_eq_true rfl), (Nat.le_of_ble_eq_true rfl)⟩ ⟨(Nat.le_of_ble_eq_true rfl), (Nat.le_of_ble_eq_true rfl)⟩ rfl rfl dX7_cachedAt_11 rfl (fun hq1 eq2 => ?_)
  rw [eq2]
  refine g_aload_n (q := 15) rfl rfl dX7_cachedAt_14 rfl ?_
  refine g_get (q := 18) fX7_12r (by decide) g0 rfl dX7_cachedAt_15 rfl ?_
  refine g_get (q := 21) fX7_153r (by decide) k1 rfl dX7_cachedAt_18 rfl ?_
  refine g_get (q := 24) fX7_166r (by decide) q1 rfl dX7_cachedAt_21 rfl ?_
  refine g_iload_n (q := 25) rfl rfl dX7_cachedAt_24 rfl ?_
  refine g_iaload (q := 26) (by decide) q2 (by omega) (by omega) (by decide) dX7_cachedAt_25 rfl ?_
  rw [ev]
  exact g_ireturn (fun z => NN_f z) (Nat.le_of_ble_eq_true rfl) (Nat.le_of_ble_eq_true rfl) dX7_cachedAt_26 rfl rP_in
set_option maxRecDepth 4000 in
theorem x_X7_cachedAt (l : Launch) (h : EHp) (S : ASt) (sv : List ASt) (hC : CRep h S sv) (k : Int) (hk : IR k) (hx : k < 0 ∨ (S.2.2.1.length : Int) ≤ k) : CT l mX7_cachedAt 7 1 6 [.ref (0), .int (iI (k))] NN h (xP eIO (fun h' => h' = h)) := by
  obtain ⟨g0, k1, k2, k4, k5, -⟩ := id hC
  obtain ⟨ks, q1, q2, -, q4, q5, q6, q7, q8⟩ := id k4
  refine CT.of (by decide) (Nat.le_of_ble_eq_true rfl) ?_
  refine g_al (al2 := [some (.ref (0)), some (.int (iI (k)))]) rfl ?_
  refine g_iload_n (q := 1) rfl rfl dX7_cachedAt_0 rfl ?_
  refine g_aload_n (q := 2) rfl rfl dX7_cachedAt_1 rfl ?_
  refine g_get (q := 5) fX7_12r (by decide) g0 rfl dX7_cachedAt_2 rfl ?_
  refine g_get (q := 8) fX7_153r (by decide) k1 rfl dX7_cachedAt_5 rfl ?_
  refine g_get (q := 11) fX7_165r (by decide) q1 rfl dX7_cachedAt_8 rfl ?_
  exact g_Sx (d' := 6) (av := [.int (iI (k)), .int (iI (S.2.2.1.length))]) (st := []) ksX7_93 (x_X7_requireIndex l h k S.2.2.1.length hk ⟨by omega, by omega⟩ hx) rfl (Nat.le_of_ble_eq_true rfl) ⟨(Nat.le_of_ble_eq_true rfl), (Nat.le_of_ble_eq_true rfl)⟩ ⟨(Nat.le_of_ble_eq_true rfl), (Nat.le_of_ble_eq_true rfl)⟩ rfl rfl dX7_cachedAt_11 (fun h2 z => xP_in z)
set_option maxRecDepth 4000 in
theorem t_X7_setCapacity (l : Launch) (h : EHp) (S : ASt) (sv : List ASt) (hC : CRep h S sv) (cp : Nat) (hc : cp ≤ 8) : CT l mX7_setCapacity 7 0 0 [.ref (0), .int (iI (cp))] NN h (wP (fun v h' => v = .int (iI S.2.1) ∧ CRep h' (S.1, (cp : Int), trim cp S.2.2.1, S.2.2.2.1, S.2.2.2.2) (push4 S sv) ∧ FrC h h')) := by
  obtain ⟨g0, k1, k2, k4, k5, -⟩ := id hC
  obtain ⟨-, -, -, -, -, ⟨nx, hH⟩, -⟩ := id hC
  obtain ⟨T9, hG, -⟩ := id hH
  refine CT.of (by decide) (Nat.le_of_ble_eq_true rfl) ?_
  refine g_al (al2 := [some (.ref (0)), some (.int (iI (cp))), none]) rfl ?_
  refine g_iload_n (q := 1) rfl rfl dX7_setCapacity_0 rfl ?_
  refine g_iconst (q := 2) dX7_setCapacity_1 rfl ?_
  refine g_bipush (q := 4) (by decide) dX7_setCapacity_2 rfl ?_
  refine g_Sv (q := 7) (d' := 6) (av := [.int (iI (cp)), .int (iI (0)), .int (iI (8))]) (st := []) ksX7_101 (t_X7_requireBetween l h cp 0 8 ⟨by omega, by omega⟩ (by decide) (by decide) (by omega) (by omega)) rfl (Nat.le_of_ble_eq_true rfl) ⟨(Nat.le_of_ble_eq_true rfl), (Nat.le_of_ble_eq_true rfl)⟩ ⟨(Nat.le_of_ble_eq_true rfl), (Nat.le_of_ble_eq_true rfl)⟩ rfl rfl dX7_setCapacity_4 rfl (fun hq1 eq2 => ?_)
  rw [eq2]
  refine g_aload_n (q := 8) rfl rfl dX7_setCapacity_7 rfl ?_
  refine g_get (q := 11) fX7_19r (by decide) g0 rfl dX7_setCapacity_8 rfl ?_
  refine g_aload_n (q := 12) rfl rfl dX7_setCapacity_11 rfl ?_
  refine g_get (q := 15) fX7_12r (by decide) g0 rfl dX7_setCapacity_12 rfl ?_
  refine g_Vv (q := 18) (d' := 3) (i := 17) (av := [.ref (1)]) (st := []) kvX7_78 (t_X2_save l h 17 nx 1 sv S hH (crep_SA hC) (by omega)) (by decide) hG rfl (Nat.le_of_ble_eq_true rfl) ⟨(Nat.le_of_ble_eq_true rfl), (Nat.le_of_ble_eq_true rfl)⟩ ⟨(Nat.le_of_ble_eq_true rfl), (Nat.le_of_ble_eq_true rfl)⟩ rfl rfl dX7_setCapacity_15 rfl (fun h1 hsv => ?_)
  obtain ⟨sv1, sv2⟩ := hsv
  have hC1 : CRep h1 S (push4 S sv) := crep_sv hC sv1 sv2
  obtain ⟨n0, n1, n2, n4, n5, -⟩ := id hC1
  obtain ⟨ks, q1, -⟩ := id n4
  refine g_aload_n (q := 19) rfl rfl dX7_setCapacity_18 rfl ?_
  refine g_get (q := 22) fX7_12r (by decide) n0 rfl dX7_setCapacity_19 rfl ?_
  refine g_get (q := 25) fX7_153r (by decide) n1 rfl dX7_setCapacity_22 rfl ?_
  refine g_get (q := 28) fX7_157r (by decide) q1 rfl dX7_setCapacity_25 rfl ?_
  refine g_istore_n (q := 29) (al2 := [some (.ref (0)), some (.int (iI (cp))), some (.int (iI (S.2.1)))]) rfl (by decide) rfl rfl dX7_setCapacity_28 rfl ?_
  refine g_aload_n (q := 30) rfl rfl dX7_setCapacity_29 rfl ?_
  refine g_get (q := 33) fX7_12r (by decide) n0 rfl dX7_setCapacity_30 rfl ?_
  refine g_get (q := 36) fX7_153r (by decide) n1 rfl dX7_setCapacity_33 rfl ?_
  refine g_iload_n (q := 37) rfl rfl dX7_setCapacity_36 rfl ?_
  refine g_Vv (q := 40) (d' := 2) (i := 3) (av := [.int (iI (cp))]) (st := []) kvX7_162 (t_X0_resize l h1 3 S.2.1 S.2.2.1 n4 cp hc) (by decide) q1 rfl (Nat.le_of_ble_eq_true rfl) ⟨(Nat.le_of_ble_eq_true rfl), (Nat.le_of_ble_eq_true rfl)⟩ ⟨(Nat.le_of_ble_eq_true rfl), (Nat.le_of_ble_eq_true rfl)⟩ rfl rfl dX7_setCapacity_37 rfl (fun h2 hp => ?_)
  obtain ⟨p1, p2⟩ := hp
  refine g_iload_n (q := 41) rfl rfl dX7_setCapacity_40 rfl ?_
  exact g_ireturn (fun z => NN_f z) (Nat.le_of_ble_eq_true rfl) (Nat.le_of_ble_eq_true rfl) dX7_setCapacity_41 rfl (wP_in ⟨rfl, crep_of (S' := (S.1, (cp : Int), trim cp S.2.2.1, S.2.2.2.1, S.2.2.2.2)) hC1 ⟨(p2 1 (by decide) (by decide)).trans n1, (p2 2 (by decide) (by decide)).trans n2, by decide, p1, fun j hj => by
      have := (n5 j hj trivial).moved (h' := h2) (p2 _ (by omega) (by omega)) (p2 _ (by omega) (by omega)) (p2 _ (by omega) (by omega))
      rw [show 1 + 4 + 3 * j = 5 + 3 * j by omega]
      exact this⟩ (fun j hj => p2 j (by omega) (by omega)), fun j hj => (p2 j (by omega) (by omega)).trans (sv2 j (by omega))⟩)
set_option maxRecDepth 4000 in
theorem x_X7_setCapacity (l : Launch) (h : EHp) (S : ASt) (sv : List ASt) (hC : CRep h S sv) (cp : Int) (hc : IR cp) (hx : cp < 0 ∨ 8 < cp) : CT l mX7_setCapacity 7 1 6 [.ref (0), .int (iI (cp))] NN h (xP eIA (fun h' => h' = h)) := by
  obtain ⟨g0, k1, k2, k4, k5, -⟩ := id hC
  refine CT.of (by decide) (Nat.le_of_ble_eq_true rfl) ?_
  refine g_al (al2 := [some (.ref (0)), some (.int (iI (cp))), none]) rfl ?_
  refine g_iload_n (q := 1) rfl rfl dX7_setCapacity_0 rfl ?_
  refine g_iconst (q := 2) dX7_setCapacity_1 rfl ?_
  refine g_bipush (q := 4) (by decide) dX7_setCapacity_2 rfl ?_
  exact g_Sx (d' := 6) (av := [.int (iI (cp)), .int (iI (0)), .int (iI (8))]) (st := []) ksX7_101 (x_X7_requireBetween l h cp 0 8 hc (by decide) (by decide) hx) rfl (Nat.le_of_ble_eq_true rfl) ⟨(Nat.le_of_ble_eq_true rfl), (Nat.le_of_ble_eq_true rfl)⟩ ⟨(Nat.le_of_ble_eq_true rfl), (Nat.le_of_ble_eq_true rfl)⟩ rfl rfl dX7_setCapacity_4 (fun h2 z => xP_in z)
set_option maxRecDepth 4000 in
theorem t_X7_nextAtLeast (l : Launch) (h : EHp) (S : ASt) (sv : List ASt) (hC : CRep h S sv) (i : Nat) (hi : i < 4) (x : Int) (x0 : 0 ≤ x) (x1 : x ≤ 511) : CT l mX7_nextAtLeast 8 0 0 [.ref (0), .int (iI (i)), .int (iI (x))] NN h (wP (fun v h' => v = .int (iI (qry S i x).1) ∧ CRep h' (qry S i x).2 (push4 S sv) ∧ FrC h h')) := by
  obtain ⟨g0, k1, k2, k4, k5, -⟩ := id hC
  obtain ⟨-, -, -, -, -, ⟨nx, hH⟩, -⟩ := id hC
  obtain ⟨T9, hG, -⟩ := id hH
  refine CT.of (by decide) (Nat.le_of_ble_eq_true rfl) ?_
  refine g_al (al2 := [some (.ref (0)), some (.int (iI (i))), some (.int (iI (x)))]) rfl ?_
  refine g_iload_n (q := 1) rfl rfl dX7_nextAtLeast_0 rfl ?_
  refine g_Sv (q := 4) (d' := 7) (av := [.int (iI (i))]) (st := []) ksX7_126 (t_X7_requireList l h i (by omega) (by omega)) rfl (Nat.le_of_ble_eq_true rfl) ⟨(Nat.le_of_ble_eq_true rfl), (Nat.le_of_ble_eq_true rfl)⟩ ⟨(Nat.le_of_ble_eq_true rfl), (Nat.le_of_ble_eq_true rfl)⟩ rfl rfl dX7_nextAtLeast_1 rfl (fun hq1 eq2 => ?_)
  rw [eq2]
  refine g_iload_n (q := 5) rfl rfl dX7_nextAtLeast_4 rfl ?_
  refine g_iconst (q := 6) dX7_nextAtLeast_5 rfl ?_
  refine g_sipush (q := 9) (by decide) dX7_nextAtLeast_6 rfl ?_
  refine g_Sv (q := 12) (d' := 6) (av := [.int (iI (x)), .int (iI (0)), .int (iI (511))]) (st := []) ksX7_101 (t_X7_requireBetween l h x 0 511 ⟨by omega, by omega⟩ (by decide) (by decide) x0 x1) rfl (Nat.le_of_ble_eq_true rfl) ⟨(Nat.le_of_ble_eq_true rfl), (Nat.le_of_ble_eq_true rfl)⟩ ⟨(Nat.le_of_ble_eq_true rfl), (Nat.le_of_ble_eq_true rfl)⟩ rfl rfl dX7_nextAtLeast_9 rfl (fun hq3 eq4 => ?_)
  rw [eq4]
  refine g_aload_n (q := 13) rfl rfl dX7_nextAtLeast_12 rfl ?_
  refine g_get (q := 16) fX7_19r (by decide) g0 rfl dX7_nextAtLeast_13 rfl ?_
  refine g_aload_n (q := 17) rfl rfl dX7_nextAtLeast_16 rfl ?_
  refine g_get (q := 20) fX7_12r (by decide) g0 rfl dX7_nextAtLeast_17 rfl ?_
  refine g_Vv (q := 23) (d' := 3) (i := 17) (av := [.ref (1)]) (st := []) kvX7_78 (t_X2_save l h 17 nx 1 sv S hH (crep_SA hC) (by omega)) (by decide) hG rfl (Nat.le_of_ble_eq_true rfl) ⟨(Nat.le_of_ble_eq_true rfl), (Nat.le_of_ble_eq_true rfl)⟩ ⟨(Nat.le_of_ble_eq_true rfl), (Nat.le_of_ble_eq_true rfl)⟩ rfl rfl dX7_nextAtLeast_20 rfl (fun h1 hsv => ?_)
  obtain ⟨sv1, sv2⟩ := hsv
  have hC1 : CRep h1 S (push4 S sv) := crep_sv hC sv1 sv2
  obtain ⟨n0, n1, n2, n4, n5, -⟩ := id hC1
  refine g_aload_n (q := 24) rfl rfl dX7_nextAtLeast_23 rfl ?_
  refine g_get (q := 27) fX7_12r (by decide) n0 rfl dX7_nextAtLeast_24 rfl ?_
  refine g_iload_n (q := 28) rfl rfl dX7_nextAtLeast_27 rfl ?_
  refine g_iload_n (q := 29) rfl rfl dX7_nextAtLeast_28 rfl ?_
  refine g_Vw (q := 32) (d' := 4) (i := 1) (av := [.int (iI (i)), .int (iI (x))]) (st := []) kvX7_129 (t_X6_query l h1 1 i S (crep_SA hC1) hi x x0 x1) (by decide) n1 rfl (Nat.le_of_ble_eq_true rfl) ⟨(Nat.le_of_ble_eq_true rfl), (Nat.le_of_ble_eq_true rfl)⟩ ⟨(Nat.le_of_ble_eq_true rfl), (Nat.le_of_ble_eq_true rfl)⟩ rfl rfl dX7_nextAtLeast_29 rfl (fun v h2 hp => ?_)
  obtain ⟨rfl, p1, p2⟩ := hp
  exact g_ireturn (fun z => NN_f z) (Nat.le_of_ble_eq_true rfl) (Nat.le_of_ble_eq_true rfl) dX7_nextAtLeast_32 rfl (wP_in ⟨rfl, crep_of hC1 p1 p2, fun j hj => (p2 j (by omega)).trans (sv2 j (by omega))⟩)
set_option maxRecDepth 4000 in
theorem x_X7_nextAtLeast (l : Launch) (h : EHp) (S : ASt) (sv : List ASt) (hC : CRep h S sv) (i : Int) (hi : IR i) (h0 : i < 0 ∨ 4 ≤ i) (x : Int) : CT l mX7_nextAtLeast 8 1 6 [.ref (0), .int (iI (i)), .int (iI (x))] NN h (xP eIO (fun h' => h' = h)) := by
  obtain ⟨g0, k1, k2, k4, k5, -⟩ := id hC
  refine CT.of (by decide) (Nat.le_of_ble_eq_true rfl) ?_
  refine g_al (al2 := [some (.ref (0)), some (.int (iI (i))), some (.int (iI (x)))]) rfl ?_
  refine g_iload_n (q := 1) rfl rfl dX7_nextAtLeast_0 rfl ?_
  exact g_Sx (d' := 7) (av := [.int (iI (i))]) (st := []) ksX7_126 (x_X7_requireList l h i hi h0) rfl (Nat.le_of_ble_eq_true rfl) ⟨(Nat.le_of_ble_eq_true rfl), (Nat.le_of_ble_eq_true rfl)⟩ ⟨(Nat.le_of_ble_eq_true rfl), (Nat.le_of_ble_eq_true rfl)⟩ rfl rfl dX7_nextAtLeast_1 (fun h2 z => xP_in z)
set_option maxRecDepth 4000 in
theorem x2_X7_nextAtLeast (l : Launch) (h : EHp) (S : ASt) (sv : List ASt) (hC : CRep h S sv) (i : Nat) (hi : i < 4) (x : Int) (hj : IR x) (hx : x < 0 ∨ 511 < x) : CT l mX7_nextAtLeast 8 1 6 [.ref (0), .int (iI (i)), .int (iI (x))] NN h (xP eIA (fun h' => h' = h)) := by
  obtain ⟨g0, k1, k2, k4, k5, -⟩ := id hC
  refine CT.of (by decide) (Nat.le_of_ble_eq_true rfl) ?_
  refine g_al (al2 := [some (.ref (0)), some (.int (iI (i))), some (.int (iI (x)))]) rfl ?_
  refine g_iload_n (q := 1) rfl rfl dX7_nextAtLeast_0 rfl ?_
  refine g_Sv (q := 4) (d' := 7) (av := [.int (iI (i))]) (st := []) ksX7_126 (t_X7_requireList l h i (by omega) (by omega)) rfl (Nat.le_of_ble_eq_true rfl) ⟨(Nat.le_of_ble_eq_true rfl), (Nat.le_of_ble_eq_true rfl)⟩ ⟨(Nat.le_of_ble_eq_true rfl), (Nat.le_of_ble_eq_true rfl)⟩ rfl rfl dX7_nextAtLeast_1 rfl (fun hq1 eq2 => ?_)
  rw [eq2]
  refine g_iload_n (q := 5) rfl rfl dX7_nextAtLeast_4 rfl ?_
  refine g_iconst (q := 6) dX7_nextAtLeast_5 rfl ?_
  refine g_sipush (q := 9) (by decide) dX7_nextAtLeast_6 rfl ?_
  exact g_Sx (d' := 6) (av := [.int (iI (x)), .int (iI (0)), .int (iI (511))]) (st := []) ksX7_101 (x_X7_requireBetween l h x 0 511 hj (by decide) (by decide) hx) rfl (Nat.le_of_ble_eq_true rfl) ⟨(Nat.le_of_ble_eq_true rfl), (Nat.le_of_ble_eq_true rfl)⟩ ⟨(Nat.le_of_ble_eq_true rfl), (Nat.le_of_ble_eq_true rfl)⟩ rfl rfl dX7_nextAtLeast_9 (fun h2 z => xP_in z)
set_option maxRecDepth 4000 in
theorem t_X7_clear (l : Launch) (h : EHp) (S : ASt) (sv : List ASt) (hC : CRep h S sv) (i : Nat) (hi : i < 4) : CT l mX7_clear 9 0 0 [.ref (0), .int (iI (i))] NN h (wP (fun v h' => v = .int (iI (S.1 i).1) ∧ CRep h' (wrL S i 0 (fun _ => 0)) (push4 S sv) ∧ FrC h h')) := by
  obtain ⟨g0, k1, k2, k4, k5, -⟩ := id hC
  obtain ⟨m, ds, fa, hA, hag, hO, hFO⟩ := k5 i hi trivial
  have hOd := ag_LOk hag hO
  obtain ⟨o1, o2, o3, o4⟩ := id hO
  have em := hFO.pn
  have hm := hFO.1
  obtain ⟨-, -, -, -, -, ⟨nx, hH⟩, -⟩ := id hC
  obtain ⟨T9, hG, -⟩ := id hH
  refine CT.of (by decide) (Nat.le_of_ble_eq_true rfl) ?_
  refine g_al (al2 := [some (.ref (0)), some (.int (iI (i))), none]) rfl ?_
  refine g_aload_n (q := 1) rfl rfl dX7_clear_0 rfl ?_
  refine g_iload_n (q := 2) rfl rfl dX7_clear_1 rfl ?_
  refine g_Vr (q := 5) (d' := 8) (i := 0) (av := [.int (iI (i))]) (st := []) (v := .ref (5 + 3 * i)) kvX7_48 (t_X7_listAt l h S sv hC i hi) (by decide) g0 rfl (Nat.le_of_ble_eq_true rfl) ⟨(Nat.le_of_ble_eq_true rfl), (Nat.le_of_ble_eq_true rfl)⟩ ⟨(Nat.le_of_ble_eq_true rfl), (Nat.le_of_ble_eq_true rfl)⟩ rfl rfl dX7_clear_2 rfl ?_
  refine g_get (q := 8) fX7_69r (by show _ < 103; omega) hA.1 rfl dX7_clear_5 rfl ?_
  refine g_istore_n (q := 9) (al2 := [some (.ref (0)), some (.int (iI (i))), some (.int (iI ((S.1 i).1)))]) rfl (by decide) rfl rfl dX7_clear_8 rfl ?_
  refine g_aload_n (q := 10) rfl rfl dX7_clear_9 rfl ?_
  refine g_get (q := 13) fX7_19r (by decide) g0 rfl dX7_clear_10 rfl ?_
  refine g_aload_n (q := 14) rfl rfl dX7_clear_13 rfl ?_
  refine g_get (q := 17) fX7_12r (by decide) g0 rfl dX7_clear_14 rfl ?_
  refine g_Vv (q := 20) (d' := 3) (i := 17) (av := [.ref (1)]) (st := []) kvX7_78 (t_X2_save l h 17 nx 1 sv S hH (crep_SA hC) (by omega)) (by decide) hG rfl (Nat.le_of_ble_eq_true rfl) ⟨(Nat.le_of_ble_eq_true rfl), (Nat.le_of_ble_eq_true rfl)⟩ ⟨(Nat.le_of_ble_eq_true rfl), (Nat.le_of_ble_eq_true rfl)⟩ rfl rfl dX7_clear_17 rfl (fun h1 hsv => ?_)
  obtain ⟨sv1, sv2⟩ := hsv
  have hC1 : CRep h1 S (push4 S sv) := crep_sv hC sv1 sv2
  obtain ⟨n0, n1, n2, n4, n5, -⟩ := id hC1
  obtain ⟨-, -, -, -, -, -, -, -, -, ⟨rs, n9⟩⟩ := id hC1
  refine g_aload_n (q := 21) rfl rfl dX7_clear_20 rfl ?_
  refine g_iload_n (q := 22) rfl rfl dX7_clear_21 rfl ?_
  refine g_iconst (q := 23) dX7_clear_22 rfl ?_
  refine g_Vw (q := 26) (d' := 5) (i := 0) (av := [.int (iI (i)), .int (iI (0))]) (st := []) kvX7_89 (t_X7_writeResult l h1 S (push4 S sv) i hi hC1 rs (fun _ => 0) 0 n9 ⟨by decide, by decide, fun j a b => by omega, fun j k a b d => by omega⟩ (fun j a b => by omega)) (by decide) n0 rfl (Nat.le_of_ble_eq_true rfl) ⟨(Nat.le_of_ble_eq_true rfl), (Nat.le_of_ble_eq_true rfl)⟩ ⟨(Nat.le_of_ble_eq_true rfl), (Nat.le_of_ble_eq_true rfl)⟩ rfl rfl dX7_clear_23 rfl (fun v h2 hp => ?_)
  obtain ⟨rfl, p1, p2⟩ := hp
  refine g_pop (q := 27) rfl dX7_clear_26 rfl ?_
  refine g_iload_n (q := 28) rfl rfl dX7_clear_27 rfl ?_
  exact g_ireturn (fun z => NN_f z) (Nat.le_of_ble_eq_true rfl) (Nat.le_of_ble_eq_true rfl) dX7_clear_28 rfl (wP_in ⟨rfl, p1, fun j hj => (p2 j hj).trans (sv2 j (by omega))⟩)
set_option maxRecDepth 4000 in
theorem x_X7_clear (l : Launch) (h : EHp) (S : ASt) (sv : List ASt) (hC : CRep h S sv) (i : Int) (hi : IR i) (h0 : i < 0 ∨ 4 ≤ i) : CT l mX7_clear 9 1 6 [.ref (0), .int (iI (i))] NN h (xP eIO (fun h' => h' = h)) := by
  obtain ⟨g0, k1, k2, k4, k5, -⟩ := id hC
  refine CT.of (by decide) (Nat.le_of_ble_eq_true rfl) ?_
  refine g_al (al2 := [some (.ref (0)), some (.int (iI (i))), none]) rfl ?_
  refine g_aload_n (q := 1) rfl rfl dX7_clear_0 rfl ?_
  refine g_iload_n (q := 2) rfl rfl dX7_clear_1 rfl ?_
  exact g_Vx (d' := 8) (i := 0) (av := [.int (iI (i))]) (st := []) kvX7_48 (x_X7_listAt l h i hi h0) (by decide) g0 rfl (Nat.le_of_ble_eq_true rfl) ⟨(Nat.le_of_ble_eq_true rfl), (Nat.le_of_ble_eq_true rfl)⟩ ⟨(Nat.le_of_ble_eq_true rfl), (Nat.le_of_ble_eq_true rfl)⟩ rfl rfl dX7_clear_2 (fun h2 z => xP_in z)
set_option maxRecDepth 4000 in
theorem t_X7_undo (l : Launch) (h : EHp) (S R : ASt) (sv : List ASt) (hC : CRep h S (R :: sv)) : CT l mX7_undo 7 0 0 [.ref (0)] NN h (wP (fun v h' => v = .int (iI sv.length) ∧ CRep h' R sv ∧ FrC h h')) := by
  obtain ⟨g0, k1, k2, k4, k5, -⟩ := id hC
  obtain ⟨-, -, -, -, -, ⟨nx, hH⟩, ⟨Ws, Es, g6, g7, g8⟩, ⟨len, bs, g9, g10, g11⟩, ⟨od, g12⟩, ⟨rs, g13⟩⟩ := id hC
  obtain ⟨T9, hG, -, -, hl4, -⟩ := id hH
  have hln : ((R :: sv).length : Int) = sv.length + 1 := by rw [List.length_cons]; omega
  refine CT.of (by decide) (Nat.le_of_ble_eq_true rfl) ?_
  refine g_al (al2 := [some (.ref (0))]) rfl ?_
  refine g_aload_n (q := 1) rfl rfl dX7_undo_0 rfl ?_
  refine g_get (q := 4) fX7_19r (by decide) g0 rfl dX7_undo_1 rfl ?_
  refine g_get (q := 7) fX7_169r (by decide) hG rfl dX7_undo_4 rfl ?_
  refine g_if_ne (t := 20) (q := 10) ⟨by omega, by omega⟩ dX7_undo_7 rfl rfl (fun c7 => ?_) (fun c7 => ?_)
  · refine g_aload_n (q := 21) rfl rfl dX7_undo_20 rfl ?_
    refine g_get (q := 24) fX7_19r (by decide) g0 rfl dX7_undo_21 rfl ?_
    refine g_aload_n (q := 25) rfl rfl dX7_undo_24 rfl ?_
    refine g_get (q := 28) fX7_12r (by decide) g0 rfl dX7_undo_25 rfl ?_
    refine g_Vv (q := 31) (d' := 3) (i := 17) (av := [.ref (1)]) (st := []) kvX7_172 (t_X2_restore l h 17 nx 1 sv S R hH (crep_SA hC) (by omega)) (by decide) hG rfl (Nat.le_of_ble_eq_true rfl) ⟨(Nat.le_of_ble_eq_true rfl), (Nat.le_of_ble_eq_true rfl)⟩ ⟨(Nat.le_of_ble_eq_true rfl), (Nat.le_of_ble_eq_true rfl)⟩ rfl rfl dX7_undo_28 rfl (fun h1 hp => ?_)
    obtain ⟨p1, p2, p3⟩ := hp
    obtain ⟨T8, hG1, -⟩ := id p2
    obtain ⟨r1, r2, r3, r4, r5⟩ := p1
    have e0 : h1 0 = _ := (p3 0 (by omega) (by omega)).trans g0
    refine g_aload_n (q := 32) rfl rfl dX7_undo_31 rfl ?_
    refine g_get (q := 35) fX7_19r (by decide) e0 rfl dX7_undo_32 rfl ?_
    refine g_get (q := 38) fX7_169r (by decide) hG1 rfl dX7_undo_35 rfl ?_
    exact g_ireturn (fun z => NN_f z) (Nat.le_of_ble_eq_true rfl) (Nat.le_of_ble_eq_true rfl) dX7_undo_38 rfl (wP_in ⟨rfl, ⟨e0, r1, r2, r4, fun j hj _ => by
          have := r5 j hj
          rw [show 1 + 4 + 3 * j = 5 + 3 * j by omega] at this
          exact this, ⟨_, p2⟩, ⟨Ws, Es, (p3 83 (by omega) (by omega)).trans g6, (p3 84 (by omega) (by omega)).trans g7, (p3 85 (by omega) (by omega)).trans g8⟩, ⟨len, bs, (p3 86 (by omega) (by omega)).trans g9, (p3 87 (by omega) (by omega)).trans g10, g11⟩, ⟨od, (p3 88 (by omega) (by omega)).trans g12⟩, ⟨rs, (p3 89 (by omega) (by omega)).trans g13⟩⟩, fun j hj => p3 j (by omega) (by omega)⟩)
  · omega
set_option maxRecDepth 4000 in
theorem x_X7_undo (l : Launch) (h : EHp) (S : ASt) (hC : CRep h S []) : CT l mX7_undo 7 1 6 [.ref (0)] NN h (xP eIS (fun h' => h' = h)) := by
  obtain ⟨g0, k1, k2, k4, k5, -⟩ := id hC
  obtain ⟨-, -, -, -, -, ⟨nx, hH⟩, -⟩ := id hC
  obtain ⟨T9, hG, -⟩ := id hH
  refine CT.of (by decide) (Nat.le_of_ble_eq_true rfl) ?_
  refine g_al (al2 := [some (.ref (0))]) rfl ?_
  refine g_aload_n (q := 1) rfl rfl dX7_undo_0 rfl ?_
  refine g_get (q := 4) fX7_19r (by decide) g0 rfl dX7_undo_1 rfl ?_
  refine g_get (q := 7) fX7_169r (by decide) hG rfl dX7_undo_4 rfl ?_
  refine g_if_ne (t := 20) (q := 10) (by decide) dX7_undo_7 rfl rfl (fun c7 => ?_) (fun c7 => ?_)
  · exact absurd rfl c7
  · exact g_throw th_IS3 rfl rfl rfl (xP_in rfl) (Nat.le_of_ble_eq_true rfl) (Nat.le_of_ble_eq_true rfl) (Nat.le_of_ble_eq_true rfl) (Nat.le_of_ble_eq_true rfl) dX7_undo_10 dX7_undo_13 dX7_undo_14 dX7_undo_16 dX7_undo_19
