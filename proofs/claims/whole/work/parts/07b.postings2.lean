/-! ===== Postings: what is written, and the reads of a query ===== -/
set_option maxRecDepth 4000 in
theorem t_X4_copyFrom (l : Launch) (h : EHp) (a b : Nat) (c m c2 m2 : Int) (ds fa ds2 fa2 : Int → Int) (hA : PA h a c m ds fa) (hB : PA h b c2 m2 ds2 fa2) (hab : a + 2 < b ∨ b + 2 < a) (hc0 : 0 ≤ c2) (hc : c2 ≤ 64) (hm0 : 0 ≤ m2) (hm : m2 ≤ 64) : CT l mX4_copyFrom 1 0 0 [.ref (a), .ref (b)] NN h (vP (fun h' => PA h' a c2 m2 (cpy ds2 ds 0 0 c2) (cpy fa2 fa 0 0 (m2 * 6)) ∧ Fr3 h h' a)) := by
  obtain ⟨hP, hD, hF, hlt⟩ := hA
  obtain ⟨hP2, hD2, hF2, hlt2⟩ := hB
  refine CT.of (by decide) (Nat.le_of_ble_eq_true rfl) ?_
  refine g_al (al2 := [some (.ref (a)), some (.ref (b))]) rfl ?_
  refine g_aload_n (q := 1) rfl rfl dX4_copyFrom_0 rfl ?_
  refine g_aload_n (q := 2) rfl rfl dX4_copyFrom_1 rfl ?_
  refine g_get (q := 5) fX4_15r (by show _ < 103; omega) hP2 rfl dX4_copyFrom_2 rfl ?_
  refine g_put (q := 8) fX4_15 (by show _ < 103; omega) hP (Nat.le_of_ble_eq_true rfl) (fun _ _ => rfl) (fun _ _ => rfl) dX4_copyFrom_5 rfl ?_
  refine hp_in (fun hh1 ehh1 => ?_)
  have fc2 : hh1 a = cO 4 [.ref (a + 1), .int (iI (c2)), .ref (a + 2), .int (iI (m))] := by rw [ehh1]; exact ueh_s
  have fc3 : hh1 (a + 1) = cI 64 ds := by rw [ehh1, ueh_n (by omega)]; exact hD
  have fc4 : hh1 (a + 2) = cI 384 fa := by rw [ehh1, ueh_n (by omega)]; exact hF
  have fc5 : hh1 b = cO 4 [.ref (b + 1), .int (iI (c2)), .ref (b + 2), .int (iI (m2))] := by rw [ehh1, ueh_n (by omega)]; exact hP2
  have fc6 : hh1 (b + 1) = cI 64 ds2 := by rw [ehh1, ueh_n (by omega)]; exact hD2
  have fc7 : hh1 (b + 2) = cI 384 fa2 := by rw [ehh1, ueh_n (by omega)]; exact hF2
  refine g_aload_n (q := 9) rfl rfl dX4_copyFrom_8 rfl ?_
  refine g_get (q := 12) fX4_9r (by show _ < 103; omega) fc5 rfl dX4_copyFrom_9 rfl ?_
  refine g_iconst (q := 13) dX4_copyFrom_12 rfl ?_
  refine g_aload_n (q := 14) rfl rfl dX4_copyFrom_13 rfl ?_
  refine g_get (q := 17) fX4_9r (by show _ < 103; omega) fc2 rfl dX4_copyFrom_14 rfl ?_
  refine g_iconst (q := 18) dX4_copyFrom_17 rfl ?_
  refine g_aload_n (q := 19) rfl rfl dX4_copyFrom_18 rfl ?_
  refine g_get (q := 22) fX4_15r (by show _ < 103; omega) fc2 rfl dX4_copyFrom_19 rfl ?_
  refine g_copy (q := 25) acX4_25 (by show _ < 103; omega) fc6 (by show _ < 103; omega) fc3 (by omega) (by omega) (by omega) (by omega) (by omega) (by decide) (by decide) (Nat.le_of_ble_eq_true rfl) (Nat.le_of_ble_eq_true rfl) dX4_copyFrom_22 rfl ?_
  refine hp_in (fun hh8 ehh8 => ?_)
  have fc9 : hh8 a = cO 4 [.ref (a + 1), .int (iI (c2)), .ref (a + 2), .int (iI (m))] := by rw [ehh8, ueh_n (by omega)]; exact fc2
  have fc10 : hh8 (a + 1) = cI 64 (cpy ds2 ds 0 0 c2) := by rw [ehh8]; exact ueh_s
  have fc11 : hh8 (a + 2) = cI 384 fa := by rw [ehh8, ueh_n (by omega)]; exact fc4
  have fc12 : hh8 b = cO 4 [.ref (b + 1), .int (iI (c2)), .ref (b + 2), .int (iI (m2))] := by rw [ehh8, ueh_n (by omega)]; exact fc5
  have fc13 : hh8 (b + 1) = cI 64 ds2 := by rw [ehh8, ueh_n (by omega)]; exact fc6
  have fc14 : hh8 (b + 2) = cI 384 fa2 := by rw [ehh8, ueh_n (by omega)]; exact fc7
  refine g_aload_n (q := 26) rfl rfl dX4_copyFrom_25 rfl ?_
  refine g_aload_n (q := 27) rfl rfl dX4_copyFrom_26 rfl ?_
  refine g_get (q := 30) fX4_22r (by show _ < 103; omega) fc12 rfl dX4_copyFrom_27 rfl ?_
  refine g_put (q := 33) fX4_22 (by show _ < 103; omega) fc9 (Nat.le_of_ble_eq_true rfl) (fun _ _ => rfl) (fun _ _ => rfl) dX4_copyFrom_30 rfl ?_
  refine hp_in (fun hh15 ehh15 => ?_)
  have fc16 : hh15 a = cO 4 [.ref (a + 1), .int (iI (c2)), .ref (a + 2), .int (iI (m2))] := by rw [ehh15]; exact ueh_s
  have fc17 : hh15 (a + 1) = cI 64 (cpy ds2 ds 0 0 c2) := by rw [ehh15, ueh_n (by omega)]; exact fc10
  have fc18 : hh15 (a + 2) = cI 384 fa := by rw [ehh15, ueh_n (by omega)]; exact fc11
  have fc19 : hh15 b = cO 4 [.ref (b + 1), .int (iI (c2)), .ref (b + 2), .int (iI (m2))] := by rw [ehh15, ueh_n (by omega)]; exact fc12
  have fc20 : hh15 (b + 1) = cI 64 ds2 := by rw [ehh15, ueh_n (by omega)]; exact fc13
  have fc21 : hh15 (b + 2) = cI 384 fa2 := by rw [ehh15, ueh_n (by omega)]; exact fc14
  refine g_aload_n (q := 34) rfl rfl dX4_copyFrom_33 rfl ?_
  refine g_get (q := 37) fX4_19r (by show _ < 103; omega) fc19 rfl dX4_copyFrom_34 rfl ?_
  refine g_iconst (q := 38) dX4_copyFrom_37 rfl ?_
  refine g_aload_n (q := 39) rfl rfl dX4_copyFrom_38 rfl ?_
  refine g_get (q := 42) fX4_19r (by show _ < 103; omega) fc16 rfl dX4_copyFrom_39 rfl ?_
  refine g_iconst (q := 43) dX4_copyFrom_42 rfl ?_
  refine g_aload_n (q := 44) rfl rfl dX4_copyFrom_43 rfl ?_
  refine g_get (q := 47) fX4_22r (by show _ < 103; omega) fc16 rfl dX4_copyFrom_44 rfl ?_
  refine g_bipush (q := 49) (by decide) dX4_copyFrom_47 rfl ?_
  refine g_imul (q := 50) dX4_copyFrom_49 rfl ?_
  refine g_copy (q := 53) acX4_25 (by show _ < 103; omega) fc21 (by show _ < 103; omega) fc18 (by omega) (by omega) (by omega) (by omega) (by omega) (by decide) (by decide) (Nat.le_of_ble_eq_true rfl) (Nat.le_of_ble_eq_true rfl) dX4_copyFrom_50 rfl ?_
  refine hp_in (fun hh22 ehh22 => ?_)
  have fc23 : hh22 a = cO 4 [.ref (a + 1), .int (iI (c2)), .ref (a + 2), .int (iI (m2))] := by rw [ehh22, ueh_n (by omega)]; exact fc16
  have fc24 : hh22 (a + 1) = cI 64 (cpy ds2 ds 0 0 c2) := by rw [ehh22, ueh_n (by omega)]; exact fc17
  have fc25 : hh22 (a + 2) = cI 384 (cpy fa2 fa 0 0 (m2 * 6)) := by rw [ehh22]; exact ueh_s
  have fc26 : hh22 b = cO 4 [.ref (b + 1), .int (iI (c2)), .ref (b + 2), .int (iI (m2))] := by rw [ehh22, ueh_n (by omega)]; exact fc19
  have fc27 : hh22 (b + 1) = cI 64 ds2 := by rw [ehh22, ueh_n (by omega)]; exact fc20
  have fc28 : hh22 (b + 2) = cI 384 fa2 := by rw [ehh22, ueh_n (by omega)]; exact fc21
  exact g_vreturn (fun z => NN_f z) (Nat.le_of_ble_eq_true rfl) (Nat.le_of_ble_eq_true rfl) dX4_copyFrom_53 rfl (vP_in ⟨⟨fc23, fc24, fc25, hlt⟩, fun j hj => by rw [ehh22, ueh_n (by omega), ehh15, ueh_n (by omega), ehh8, ueh_n (by omega), ehh1, ueh_n (by omega)]⟩)
set_option maxRecDepth 4000 in
theorem t_X4_replace (l : Launch) (h : EHp) (a r nr : Nat) (c m len : Int) (ds fa rs : Int → Int) (hA : PA h a c m ds fa) (hR : h r = cI nr rs) (hr : r < 103) (hra : r < a ∨ a + 2 < r) (hnr : nr < 2147483648) (h0 : 0 ≤ len) (h1 : len ≤ 64) (h2 : len ≤ nr) : CT l mX4_replace 1 0 0 [.ref (a), .ref (r), .int (iI (len))] NN h (vP (fun h' => PA h' a len m (cpy rs ds 0 0 len) fa ∧ Fr3 h h' a)) := by
  obtain ⟨hP, hD, hF, hlt⟩ := hA
  refine CT.of (by decide) (Nat.le_of_ble_eq_true rfl) ?_
  refine g_al (al2 := [some (.ref (a)), some (.ref (r)), some (.int (iI (len)))]) rfl ?_
  refine g_aload_n (q := 1) rfl rfl dX4_replace_0 rfl ?_
  refine g_iload_n (q := 2) rfl rfl dX4_replace_1 rfl ?_
  refine g_put (q := 5) fX4_15 (by show _ < 103; omega) hP (Nat.le_of_ble_eq_true rfl) (fun _ _ => rfl) (fun _ _ => rfl) dX4_replace_2 rfl ?_
  refine hp_in (fun hh1 ehh1 => ?_)
  have fc2 : hh1 a = cO 4 [.ref (a + 1), .int (iI (len)), .ref (a + 2), .int (iI (m))] := by rw [ehh1]; exact ueh_s
  have fc3 : hh1 (a + 1) = cI 64 ds := by rw [ehh1, ueh_n (by omega)]; exact hD
  have fc4 : hh1 (a + 2) = cI 384 fa := by rw [ehh1, ueh_n (by omega)]; exact hF
  have fc5 : hh1 r = cI nr rs := by rw [ehh1, ueh_n (by omega)]; exact hR
  refine g_aload_n (q := 6) rfl rfl dX4_replace_5 rfl ?_
  refine g_iconst (q := 7) dX4_replace_6 rfl ?_
  refine g_aload_n (q := 8) rfl rfl dX4_replace_7 rfl ?_
  refine g_get (q := 11) fX4_9r (by show _ < 103; omega) fc2 rfl dX4_replace_8 rfl ?_
  refine g_iconst (q := 12) dX4_replace_11 rfl ?_
  refine g_iload_n (q := 13) rfl rfl dX4_replace_12 rfl ?_
  refine g_copy (q := 16) acX4_25 (by show _ < 103; omega) fc5 (by show _ < 103; omega) fc3 (by omega) (by omega) (by omega) (by omega) (by omega) hnr (by decide) (Nat.le_of_ble_eq_true rfl) (Nat.le_of_ble_eq_true rfl) dX4_replace_13 rfl ?_
  refine hp_in (fun hh6 ehh6 => ?_)
  have fc7 : hh6 a = cO 4 [.ref (a + 1), .int (iI (len)), .ref (a + 2), .int (iI (m))] := by rw [ehh6, ueh_n (by omega)]; exact fc2
  have fc8 : hh6 (a + 1) = cI 64 (cpy rs ds 0 0 len) := by rw [ehh6]; exact ueh_s
  have fc9 : hh6 (a + 2) = cI 384 fa := by rw [ehh6, ueh_n (by omega)]; exact fc4
  have fc10 : hh6 r = cI nr rs := by rw [ehh6, ueh_n (by omega)]; exact fc5
  exact g_vreturn (fun z => NN_f z) (Nat.le_of_ble_eq_true rfl) (Nat.le_of_ble_eq_true rfl) dX4_replace_16 rfl (vP_in ⟨⟨fc7, fc8, fc9, hlt⟩, fun j hj => by rw [ehh6, ueh_n (by omega), ehh1, ueh_n (by omega)]⟩)
set_option maxRecDepth 4000 in
theorem t_X4_push (l : Launch) (h : EHp) (a : Nat) (c m x : Int) (ds fa : Int → Int) (hA : PA h a c m ds fa) (h0 : 0 ≤ c) (h1 : c < 64) : CT l mX4_push 0 0 0 [.ref (a), .int (iI (x))] NN h (vP (fun h' => PA h' a (c + 1) m (ui ds c x) fa ∧ Fr3 h h' a)) := by
  obtain ⟨hP, hD, hF, hlt⟩ := hA
  refine CT.of (by decide) (Nat.le_of_ble_eq_true rfl) ?_
  refine g_al (al2 := [some (.ref (a)), some (.int (iI (x)))]) rfl ?_
  refine g_aload_n (q := 1) rfl rfl dX4_push_0 rfl ?_
  refine g_get (q := 4) fX4_15r (by show _ < 103; omega) hP rfl dX4_push_1 rfl ?_
  refine g_bipush (q := 6) (by decide) dX4_push_4 rfl ?_
  refine g_icmp_ge (t := 29) (q := 9) ⟨by omega, by omega⟩ ⟨by omega, by omega⟩ dX4_push_6 rfl rfl (fun c6 => ?_) (fun c6 => ?_)
  · omega
  · refine g_aload_n (q := 10) rfl rfl dX4_push_9 rfl ?_
    refine g_get (q := 13) fX4_9r (by show _ < 103; omega) hP rfl dX4_push_10 rfl ?_
    refine g_aload_n (q := 14) rfl rfl dX4_push_13 rfl ?_
    refine g_get (q := 17) fX4_15r (by show _ < 103; omega) hP rfl dX4_push_14 rfl ?_
    refine g_iload_n (q := 18) rfl rfl dX4_push_17 rfl ?_
    refine g_iastore (q := 19) (by show _ < 103; omega) hD (by omega) (by omega) (by decide) dX4_push_18 rfl ?_
    refine hp_in (fun hh1 ehh1 => ?_)
    have fc2 : hh1 a = cO 4 [.ref (a + 1), .int (iI (c)), .ref (a + 2), .int (iI (m))] := by rw [ehh1, ueh_n (by omega)]; exact hP
    have fc3 : hh1 (a + 1) = cI 64 (ui ds c x) := by rw [ehh1]; exact ueh_s
    have fc4 : hh1 (a + 2) = cI 384 fa := by rw [ehh1, ueh_n (by omega)]; exact hF
    refine g_aload_n (q := 20) rfl rfl dX4_push_19 rfl ?_
    refine g_dup (q := 21) rfl dX4_push_20 rfl ?_
    refine g_get (q := 24) fX4_15r (by show _ < 103; omega) fc2 rfl dX4_push_21 rfl ?_
    refine g_iconst (q := 25) dX4_push_24 rfl ?_
    refine g_iadd (q := 26) dX4_push_25 rfl ?_
    refine g_put (q := 29) fX4_15 (by show _ < 103; omega) fc2 (Nat.le_of_ble_eq_true rfl) (fun _ _ => rfl) (fun _ _ => rfl) dX4_push_26 rfl ?_
    refine hp_in (fun hh5 ehh5 => ?_)
    have fc6 : hh5 a = cO 4 [.ref (a + 1), .int (iI (c + 1)), .ref (a + 2), .int (iI (m))] := by rw [ehh5]; exact ueh_s
    have fc7 : hh5 (a + 1) = cI 64 (ui ds c x) := by rw [ehh5, ueh_n (by omega)]; exact fc3
    have fc8 : hh5 (a + 2) = cI 384 fa := by rw [ehh5, ueh_n (by omega)]; exact fc4
    exact g_vreturn (fun z => NN_f z) (Nat.le_of_ble_eq_true rfl) (Nat.le_of_ble_eq_true rfl) dX4_push_29 rfl (vP_in ⟨⟨fc6, fc7, fc8, hlt⟩, fun j hj => by rw [ehh5, ueh_n (by omega), ehh1, ueh_n (by omega)]⟩)
set_option maxRecDepth 4000 in
theorem t_X4_addPart (l : Launch) (h : EHp) (a : Nat) (c m : Int) (ds fa : Int → Int) (hA : PA h a c m ds fa) (hO : LOk c ds) (s e : Int) (h0 : 0 ≤ s) (h1 : s < e) (h2 : e ≤ c) (hm0 : 0 ≤ m) (hm : m < 64) : CT l mX4_addPart 2 0 0 [.ref (a), .int (iI (s)), .int (iI (e))] NN h (vP (fun h' => ∃ fa', PA h' a c (m + 1) ds fa' ∧ (∀ j, j < m * 6 → fa' j = fa j) ∧ (∀ t, 0 ≤ t → t < 6 → fa' (m * 6 + t) = fct ds s e t) ∧ Fr3 h h' a)) := by
  have hA0 := hA
  obtain ⟨hP, hD, hF, hlt⟩ := hA
  obtain ⟨o1, o2, o3, o4⟩ := id hO
  obtain ⟨g1, g2⟩ := hO.wid h0 h1 h2
  obtain ⟨b1, b2⟩ := bs_rng (n := e - s) (u := ds (e - 1) - ds s + 1) (by omega) (by omega) g1 g2
  have kr := knd_rng (n := e - s) (u := ds (e - 1) - ds s + 1)
  have q1 := dA_in (ds := ds) (show 0 ≤ e - 1 by omega) (show e - 1 < c by omega)
  have q2 := dA_in (ds := ds) h0 (show s < c by omega)
  refine CT.of (by decide) (Nat.le_of_ble_eq_true rfl) ?_
  refine g_al (al2 := [some (.ref (a)), some (.int (iI (s))), some (.int (iI (e))), none, none, none, none, none]) rfl ?_
  refine g_iload_n (q := 1) rfl rfl dX4_addPart_0 rfl ?_
  refine g_iload_n (q := 2) rfl rfl dX4_addPart_1 rfl ?_
  refine g_isub (q := 3) dX4_addPart_2 rfl ?_
  refine g_istore_n (q := 4) (al2 := [some (.ref (a)), some (.int (iI (s))), some (.int (iI (e))), some (.int (iI (e - s))), none, none, none, none]) rfl (by decide) rfl rfl dX4_addPart_3 rfl ?_
  refine g_aload_n (q := 5) rfl rfl dX4_addPart_4 rfl ?_
  refine g_iload_n (q := 6) rfl rfl dX4_addPart_5 rfl ?_
  refine g_iload_n (q := 7) rfl rfl dX4_addPart_6 rfl ?_
  refine g_Vr (q := 10) (d' := 1) (i := a) (av := [.int (iI (s)), .int (iI (e))]) (st := []) (v := .int (iI (ds (e - 1) - ds s + 1))) kvX4_35 (t_X4_widthBetween l h a c m ds fa hA0 hO s e h0 h1 h2) (by show _ < 103; omega) hP rfl (Nat.le_of_ble_eq_true rfl) ⟨(Nat.le_of_ble_eq_true rfl), (Nat.le_of_ble_eq_true rfl)⟩ ⟨(Nat.le_of_ble_eq_true rfl), (Nat.le_of_ble_eq_true rfl)⟩ rfl rfl dX4_addPart_7 rfl ?_
  refine g_istore (q := 12) (al2 := [some (.ref (a)), some (.int (iI (s))), some (.int (iI (e))), some (.int (iI (e - s))), some (.int (iI (ds (e - 1) - ds s + 1))), none, none, none]) (by decide) rfl rfl dX4_addPart_10 rfl ?_
  refine g_iload_n (q := 13) rfl rfl dX4_addPart_12 rfl ?_
  refine g_iload (q := 15) rfl dX4_addPart_13 rfl ?_
  refine g_Sr (q := 18) (d' := 1) (av := [.int (iI (e - s)), .int (iI (ds (e - 1) - ds s + 1))]) (st := []) (v := .int (iI (bs (e - s) (ds (e - 1) - ds s + 1)))) ksX4_39 (t_X5_bestSize l (e - s) (ds (e - 1) - ds s + 1) (by omega) (by omega) g1 g2 h) rfl (Nat.le_of_ble_eq_true rfl) ⟨(Nat.le_of_ble_eq_true rfl), (Nat.le_of_ble_eq_true rfl)⟩ ⟨(Nat.le_of_ble_eq_true rfl), (Nat.le_of_ble_eq_true rfl)⟩ rfl rfl dX4_addPart_15 rfl ?_
  refine g_istore (q := 20) (al2 := [some (.ref (a)), some (.int (iI (s))), some (.int (iI (e))), some (.int (iI (e - s))), some (.int (iI (ds (e - 1) - ds s + 1))), some (.int (iI (bs (e - s) (ds (e - 1) - ds s + 1)))), none, none]) (by decide) rfl rfl dX4_addPart_18 rfl ?_
  refine g_iload_n (q := 21) rfl rfl dX4_addPart_20 rfl ?_
  refine g_iload (q := 23) rfl dX4_addPart_21 rfl ?_
  refine g_iload (q := 25) rfl dX4_addPart_23 rfl ?_
  refine g_Sr (q := 28) (d' := 0) (av := [.int (iI (e - s)), .int (iI (ds (e - 1) - ds s + 1)), .int (iI (bs (e - s) (ds (e - 1) - ds s + 1)))]) (st := []) (v := .int (iI (knd (e - s) (ds (e - 1) - ds s + 1)))) ksX4_47 (t_X5_bestKind l (e - s) (ds (e - 1) - ds s + 1) (by omega) (by omega) g1 g2 h) rfl (Nat.le_of_ble_eq_true rfl) ⟨(Nat.le_of_ble_eq_true rfl), (Nat.le_of_ble_eq_true rfl)⟩ ⟨(Nat.le_of_ble_eq_true rfl), (Nat.le_of_ble_eq_true rfl)⟩ rfl rfl dX4_addPart_25 rfl ?_
  refine g_istore (q := 30) (al2 := [some (.ref (a)), some (.int (iI (s))), some (.int (iI (e))), some (.int (iI (e - s))), some (.int (iI (ds (e - 1) - ds s + 1))), some (.int (iI (bs (e - s) (ds (e - 1) - ds s + 1)))), some (.int (iI (knd (e - s) (ds (e - 1) - ds s + 1)))), none]) (by decide) rfl rfl dX4_addPart_28 rfl ?_
  refine g_aload_n (q := 31) rfl rfl dX4_addPart_30 rfl ?_
  refine g_get (q := 34) fX4_22r (by show _ < 103; omega) hP rfl dX4_addPart_31 rfl ?_
  refine g_bipush (q := 36) (by decide) dX4_addPart_34 rfl ?_
  refine g_imul (q := 37) dX4_addPart_36 rfl ?_
  refine g_istore (q := 39) (al2 := [some (.ref (a)), some (.int (iI (s))), some (.int (iI (e))), some (.int (iI (e - s))), some (.int (iI (ds (e - 1) - ds s + 1))), some (.int (iI (bs (e - s) (ds (e - 1) - ds s + 1)))), some (.int (iI (knd (e - s) (ds (e - 1) - ds s + 1)))), some (.int (iI (m * 6)))]) (by decide) rfl rfl dX4_addPart_37 rfl ?_
  refine g_aload_n (q := 40) rfl rfl dX4_addPart_39 rfl ?_
  refine g_get (q := 43) fX4_19r (by show _ < 103; omega) hP rfl dX4_addPart_40 rfl ?_
  refine g_iload (q := 45) rfl dX4_addPart_43 rfl ?_
  refine g_iconst (q := 46) dX4_addPart_45 rfl ?_
  refine g_iadd (q := 47) dX4_addPart_46 rfl ?_
  refine g_iload (q := 49) rfl dX4_addPart_47 rfl ?_
  refine g_iastore (q := 50) (by show _ < 103; omega) hF (by omega) (by omega) (by decide) dX4_addPart_49 rfl ?_
  refine hp_in (fun hh1 ehh1 => ?_)
  have fc2 : hh1 a = cO 4 [.ref (a + 1), .int (iI (c)), .ref (a + 2), .int (iI (m))] := by rw [ehh1, ueh_n (by omega)]; exact hP
  have fc3 : hh1 (a + 1) = cI 64 ds := by rw [ehh1, ueh_n (by omega)]; exact hD
  have fc4 : hh1 (a + 2) = cI 384 (ui fa ((m * 6) + 0) (knd (e - s) (ds (e - 1) - ds s + 1))) := by rw [ehh1]; exact ueh_s
  refine g_aload_n (q := 51) rfl rfl dX4_addPart_50 rfl ?_
  refine g_get (q := 54) fX4_19r (by show _ < 103; omega) fc2 rfl dX4_addPart_51 rfl ?_
  refine g_iload (q := 56) rfl dX4_addPart_54 rfl ?_
  refine g_iconst (q := 57) dX4_addPart_56 rfl ?_
  refine g_iadd (q := 58) dX4_addPart_57 rfl ?_
  refine g_iload_n (q := 59) rfl rfl dX4_addPart_58 rfl ?_
  refine g_iastore (q := 60) (by show _ < 103; omega) fc4 (by omega) (by omega) (by decide) dX4_addPart_59 rfl ?_
  refine hp_in (fun hh5 ehh5 => ?_)
  have fc6 : hh5 a = cO 4 [.ref (a + 1), .int (iI (c)), .ref (a + 2), .int (iI (m))] := by rw [ehh5, ueh_n (by omega)]; exact fc2
  have fc7 : hh5 (a + 1) = cI 64 ds := by rw [ehh5, ueh_n (by omega)]; exact fc3
  have fc8 : hh5 (a + 2) = cI 384 (ui (ui fa ((m * 6) + 0) (knd (e - s) (ds (e - 1) - ds s + 1))) ((m * 6) + 1) (e - s)) := by rw [ehh5]; exact ueh_s
  refine g_aload_n (q := 61) rfl rfl dX4_addPart_60 rfl ?_
  refine g_get (q := 64) fX4_19r (by show _ < 103; omega) fc6 rfl dX4_addPart_61 rfl ?_
  refine g_iload (q := 66) rfl dX4_addPart_64 rfl ?_
  refine g_iconst (q := 67) dX4_addPart_66 rfl ?_
  refine g_iadd (q := 68) dX4_addPart_67 rfl ?_
  refine g_aload_n (q := 69) rfl rfl dX4_addPart_68 rfl ?_
  refine g_iload_n (q := 70) rfl rfl dX4_addPart_69 rfl ?_
  refine g_Vr (q := 73) (d' := 0) (i := a) (av := [.int (iI (s))]) (st := [.int (iI ((m * 6) + 2)), .ref (a + 2)]) (v := .int (iI (ds s))) kvX4_31 (by have := t_X4_documentAt l hh5 a c m ds _ ⟨fc6, fc7, fc8, hlt⟩ hO s ⟨by omega, by omega⟩; rw [q2] at this; exact this) (by show _ < 103; omega) fc6 rfl (Nat.le_of_ble_eq_true rfl) ⟨(Nat.le_of_ble_eq_true rfl), (Nat.le_of_ble_eq_true rfl)⟩ ⟨(Nat.le_of_ble_eq_true rfl), (Nat.le_of_ble_eq_true rfl)⟩ rfl rfl dX4_addPart_70 rfl ?_
  refine g_iastore (q := 74) (by show _ < 103; omega) fc8 (by omega) (by omega) (by decide) dX4_addPart_73 rfl ?_
  refine hp_in (fun hh9 ehh9 => ?_)
  have fc10 : hh9 a = cO 4 [.ref (a + 1), .int (iI (c)), .ref (a + 2), .int (iI (m))] := by rw [ehh9, ueh_n (by omega)]; exact fc6
  have fc11 : hh9 (a + 1) = cI 64 ds := by rw [ehh9, ueh_n (by omega)]; exact fc7
  have fc12 : hh9 (a + 2) = cI 384 (ui (ui (ui fa ((m * 6) + 0) (knd (e - s) (ds (e - 1) - ds s + 1))) ((m * 6) + 1) (e - s)) ((m * 6) + 2) (ds s)) := by rw [ehh9]; exact ueh_s
  refine g_aload_n (q := 75) rfl rfl dX4_addPart_74 rfl ?_
  refine g_get (q := 78) fX4_19r (by show _ < 103; omega) fc10 rfl dX4_addPart_75 rfl ?_
  refine g_iload (q := 80) rfl dX4_addPart_78 rfl ?_
  refine g_iconst (q := 81) dX4_addPart_80 rfl ?_
  refine g_iadd (q := 82) dX4_addPart_81 rfl ?_
  refine g_aload_n (q := 83) rfl rfl dX4_addPart_82 rfl ?_
  refine g_iload_n (q := 84) rfl rfl dX4_addPart_83 rfl ?_
  refine g_iconst (q := 85) dX4_addPart_84 rfl ?_
  refine g_isub (q := 86) dX4_addPart_85 rfl ?_
  refine g_Vr (q := 89) (d' := 0) (i := a) (av := [.int (iI (e - 1))]) (st := [.int (iI ((m * 6) + 3)), .ref (a + 2)]) (v := .int (iI (ds (e - 1)))) kvX4_31 (by have := t_X4_documentAt l hh9 a c m ds _ ⟨fc10, fc11, fc12, hlt⟩ hO (e - 1) ⟨by omega, by omega⟩; rw [q1] at this; exact this) (by show _ < 103; omega) fc10 rfl (Nat.le_of_ble_eq_true rfl) ⟨(Nat.le_of_ble_eq_true rfl), (Nat.le_of_ble_eq_true rfl)⟩ ⟨(Nat.le_of_ble_eq_true rfl), (Nat.le_of_ble_eq_true rfl)⟩ rfl rfl dX4_addPart_86 rfl ?_
  refine g_iastore (q := 90) (by show _ < 103; omega) fc12 (by omega) (by omega) (by decide) dX4_addPart_89 rfl ?_
  refine hp_in (fun hh13 ehh13 => ?_)
  have fc14 : hh13 a = cO 4 [.ref (a + 1), .int (iI (c)), .ref (a + 2), .int (iI (m))] := by rw [ehh13, ueh_n (by omega)]; exact fc10
  have fc15 : hh13 (a + 1) = cI 64 ds := by rw [ehh13, ueh_n (by omega)]; exact fc11
  have fc16 : hh13 (a + 2) = cI 384 (ui (ui (ui (ui fa ((m * 6) + 0) (knd (e - s) (ds (e - 1) - ds s + 1))) ((m * 6) + 1) (e - s)) ((m * 6) + 2) (ds s)) ((m * 6) + 3) (ds (e - 1))) := by rw [ehh13]; exact ueh_s
  refine g_aload_n (q := 91) rfl rfl dX4_addPart_90 rfl ?_
  refine g_get (q := 94) fX4_19r (by show _ < 103; omega) fc14 rfl dX4_addPart_91 rfl ?_
  refine g_iload (q := 96) rfl dX4_addPart_94 rfl ?_
  refine g_iconst (q := 97) dX4_addPart_96 rfl ?_
  refine g_iadd (q := 98) dX4_addPart_97 rfl ?_
  refine g_iload (q := 100) rfl dX4_addPart_98 rfl ?_
  refine g_iastore (q := 101) (by show _ < 103; omega) fc16 (by omega) (by omega) (by decide) dX4_addPart_100 rfl ?_
  refine hp_in (fun hh17 ehh17 => ?_)
  have fc18 : hh17 a = cO 4 [.ref (a + 1), .int (iI (c)), .ref (a + 2), .int (iI (m))] := by rw [ehh17, ueh_n (by omega)]; exact fc14
  have fc19 : hh17 (a + 1) = cI 64 ds := by rw [ehh17, ueh_n (by omega)]; exact fc15
  have fc20 : hh17 (a + 2) = cI 384 (ui (ui (ui (ui (ui fa ((m * 6) + 0) (knd (e - s) (ds (e - 1) - ds s + 1))) ((m * 6) + 1) (e - s)) ((m * 6) + 2) (ds s)) ((m * 6) + 3) (ds (e - 1))) ((m * 6) + 4) (bs (e - s) (ds (e - 1) - ds s + 1))) := by rw [ehh17]; exact ueh_s
  refine g_aload_n (q := 102) rfl rfl dX4_addPart_101 rfl ?_
  refine g_get (q := 105) fX4_19r (by show _ < 103; omega) fc18 rfl dX4_addPart_102 rfl ?_
  refine g_iload (q := 107) rfl dX4_addPart_105 rfl ?_
  refine g_iconst (q := 108) dX4_addPart_107 rfl ?_
  refine g_iadd (q := 109) dX4_addPart_108 rfl ?_
  refine g_iload (q := 111) rfl dX4_addPart_109 rfl ?_
  refine g_iconst (q := 112) dX4_addPart_111 rfl ?_
  refine g_icmp_ne (t := 124) (q := 115) ⟨by omega, by omega⟩ ⟨by omega, by omega⟩ dX4_addPart_112 rfl rfl (fun c112 => ?_) (fun c112 => ?_)
  · refine g_iconst (q := 125) dX4_addPart_124 rfl ?_
    refine g_iastore (q := 126) (by show _ < 103; omega) fc20 (by omega) (by omega) (by decide) dX4_addPart_125 rfl ?_
    refine hp_in (fun hh21 ehh21 => ?_)
    have fc22 : hh21 a = cO 4 [.ref (a + 1), .int (iI (c)), .ref (a + 2), .int (iI (m))] := by rw [ehh21, ueh_n (by omega)]; exact fc18
    have fc23 : hh21 (a + 1) = cI 64 ds := by rw [ehh21, ueh_n (by omega)]; exact fc19
    have fc24 : hh21 (a + 2) = cI 384 (ui (ui (ui (ui (ui (ui fa ((m * 6) + 0) (knd (e - s) (ds (e - 1) - ds s + 1))) ((m * 6) + 1) (e - s)) ((m * 6) + 2) (ds s)) ((m * 6) + 3) (ds (e - 1))) ((m * 6) + 4) (bs (e - s) (ds (e - 1) - ds s + 1))) ((m * 6) + 5) 0) := by rw [ehh21]; exact ueh_s
    refine g_aload_n (q := 127) rfl rfl dX4_addPart_126 rfl ?_
    refine g_dup (q := 128) rfl dX4_addPart_127 rfl ?_
    refine g_get (q := 131) fX4_22r (by show _ < 103; omega) fc22 rfl dX4_addPart_128 rfl ?_
    refine g_iconst (q := 132) dX4_addPart_131 rfl ?_
    refine g_iadd (q := 133) dX4_addPart_132 rfl ?_
    refine g_put (q := 136) fX4_22 (by show _ < 103; omega) fc22 (Nat.le_of_ble_eq_true rfl) (fun _ _ => rfl) (fun _ _ => rfl) dX4_addPart_133 rfl ?_
    refine hp_in (fun hh25 ehh25 => ?_)
    have fc26 : hh25 a = cO 4 [.ref (a + 1), .int (iI (c)), .ref (a + 2), .int (iI (m + 1))] := by rw [ehh25]; exact ueh_s
    have fc27 : hh25 (a + 1) = cI 64 ds := by rw [ehh25, ueh_n (by omega)]; exact fc23
    have fc28 : hh25 (a + 2) = cI 384 (ui (ui (ui (ui (ui (ui fa ((m * 6) + 0) (knd (e - s) (ds (e - 1) - ds s + 1))) ((m * 6) + 1) (e - s)) ((m * 6) + 2) (ds s)) ((m * 6) + 3) (ds (e - 1))) ((m * 6) + 4) (bs (e - s) (ds (e - 1) - ds s + 1))) ((m * 6) + 5) 0) := by rw [ehh25, ueh_n (by omega)]; exact fc24
    exact g_vreturn (fun z => NN_f z) (Nat.le_of_ble_eq_true rfl) (Nat.le_of_ble_eq_true rfl) dX4_addPart_136 rfl (vP_in ⟨_, ⟨fc26, fc27, fc28, hlt⟩, fun j hj => by
          iterate 6 rw [ui_n (by omega)], fun t t0 t6 => by
          rcases (show t = 0 ∨ t = 1 ∨ t = 2 ∨ t = 3 ∨ t = 4 ∨ t = 5 by omega) with rfl | rfl | rfl | rfl | rfl | rfl
          · iterate 5 rw [ui_n (by omega)]
            exact ui_s
          · iterate 4 rw [ui_n (by omega)]
            exact ui_s
          · iterate 3 rw [ui_n (by omega)]
            exact ui_s
          · iterate 2 rw [ui_n (by omega)]
            exact ui_s
          · rw [ui_n (by omega)]
            exact ui_s
          · rw [ui_s]
            show _ = if knd (e - s) (ds (e - 1) - ds s + 1) = 2 then lb (e - s) (ds (e - 1) - ds s + 1) else 0
            rw [if_neg c112], fun j hj => by rw [ehh25, ueh_n (by omega), ehh21, ueh_n (by omega), ehh17, ueh_n (by omega), ehh13, ueh_n (by omega), ehh9, ueh_n (by omega), ehh5, ueh_n (by omega), ehh1, ueh_n (by omega)]⟩)
  · refine g_iload_n (q := 116) rfl rfl dX4_addPart_115 rfl ?_
    refine g_iload (q := 118) rfl dX4_addPart_116 rfl ?_
    refine g_Sr (q := 121) (d' := 0) (av := [.int (iI (e - s)), .int (iI (ds (e - 1) - ds s + 1))]) (st := [.int (iI ((m * 6) + 5)), .ref (a + 2)]) (v := .int (iI (lb (e - s) (ds (e - 1) - ds s + 1)))) ksX4_51 (t_X5_lowBits l (e - s) (ds (e - 1) - ds s + 1) (by omega) (by omega) g1 g2 hh17) rfl (Nat.le_of_ble_eq_true rfl) ⟨(Nat.le_of_ble_eq_true rfl), (Nat.le_of_ble_eq_true rfl)⟩ ⟨(Nat.le_of_ble_eq_true rfl), (Nat.le_of_ble_eq_true rfl)⟩ rfl rfl dX4_addPart_118 rfl ?_
    refine g_goto (q := 125) dX4_addPart_121 rfl ?_
    refine g_iastore (q := 126) (by show _ < 103; omega) fc20 (by omega) (by omega) (by decide) dX4_addPart_125 rfl ?_
    refine hp_in (fun hh29 ehh29 => ?_)
    have fc30 : hh29 a = cO 4 [.ref (a + 1), .int (iI (c)), .ref (a + 2), .int (iI (m))] := by rw [ehh29, ueh_n (by omega)]; exact fc18
    have fc31 : hh29 (a + 1) = cI 64 ds := by rw [ehh29, ueh_n (by omega)]; exact fc19
    have fc32 : hh29 (a + 2) = cI 384 (ui (ui (ui (ui (ui (ui fa ((m * 6) + 0) (knd (e - s) (ds (e - 1) - ds s + 1))) ((m * 6) + 1) (e - s)) ((m * 6) + 2) (ds s)) ((m * 6) + 3) (ds (e - 1))) ((m * 6) + 4) (bs (e - s) (ds (e - 1) - ds s + 1))) ((m * 6) + 5) (lb (e - s) (ds (e - 1) - ds s + 1))) := by rw [ehh29]; exact ueh_s
    refine g_aload_n (q := 127) rfl rfl dX4_addPart_126 rfl ?_
    refine g_dup (q := 128) rfl dX4_addPart_127 rfl ?_
    refine g_get (q := 131) fX4_22r (by show _ < 103; omega) fc30 rfl dX4_addPart_128 rfl ?_
    refine g_iconst (q := 132) dX4_addPart_131 rfl ?_
    refine g_iadd (q := 133) dX4_addPart_132 rfl ?_
    refine g_put (q := 136) fX4_22 (by show _ < 103; omega) fc30 (Nat.le_of_ble_eq_true rfl) (fun _ _ => rfl) (fun _ _ => rfl) dX4_addPart_133 rfl ?_
    refine hp_in (fun hh33 ehh33 => ?_)
    have fc34 : hh33 a = cO 4 [.ref (a + 1), .int (iI (c)), .ref (a + 2), .int (iI (m + 1))] := by rw [ehh33]; exact ueh_s
    have fc35 : hh33 (a + 1) = cI 64 ds := by rw [ehh33, ueh_n (by omega)]; exact fc31
    have fc36 : hh33 (a + 2) = cI 384 (ui (ui (ui (ui (ui (ui fa ((m * 6) + 0) (knd (e - s) (ds (e - 1) - ds s + 1))) ((m * 6) + 1) (e - s)) ((m * 6) + 2) (ds s)) ((m * 6) + 3) (ds (e - 1))) ((m * 6) + 4) (bs (e - s) (ds (e - 1) - ds s + 1))) ((m * 6) + 5) (lb (e - s) (ds (e - 1) - ds s + 1))) := by rw [ehh33, ueh_n (by omega)]; exact fc32
    exact g_vreturn (fun z => NN_f z) (Nat.le_of_ble_eq_true rfl) (Nat.le_of_ble_eq_true rfl) dX4_addPart_136 rfl (vP_in ⟨_, ⟨fc34, fc35, fc36, hlt⟩, fun j hj => by
          iterate 6 rw [ui_n (by omega)], fun t t0 t6 => by
          rcases (show t = 0 ∨ t = 1 ∨ t = 2 ∨ t = 3 ∨ t = 4 ∨ t = 5 by omega) with rfl | rfl | rfl | rfl | rfl | rfl
          · iterate 5 rw [ui_n (by omega)]
            exact ui_s
          · iterate 4 rw [ui_n (by omega)]
            exact ui_s
          · iterate 3 rw [ui_n (by omega)]
            exact ui_s
          · iterate 2 rw [ui_n (by omega)]
            exact ui_s
          · rw [ui_n (by omega)]
            exact ui_s
          · rw [ui_s]
            show _ = if knd (e - s) (ds (e - 1) - ds s + 1) = 2 then lb (e - s) (ds (e - 1) - ds s + 1) else 0
            rw [if_pos c112], fun j hj => by rw [ehh33, ueh_n (by omega), ehh29, ueh_n (by omega), ehh17, ueh_n (by omega), ehh13, ueh_n (by omega), ehh9, ueh_n (by omega), ehh5, ueh_n (by omega), ehh1, ueh_n (by omega)]⟩)
set_option maxRecDepth 4000 in
theorem t_X4_readsInside (l : Launch) (h : EHp) (a : Nat) (c m : Int) (ds fa : Int → Int) (hA : PA h a c m ds fa) (hO : LOk c ds) (j x ans : Int) (h0 : 0 ≤ j) (h1 : j < 64) (f1 : 0 ≤ fa (j * 6 + 2)) (f2 : fa (j * 6 + 2) ≤ x) (f3 : x ≤ 511) (k0 : 0 ≤ fa (j * 6 + 0)) (k1 : fa (j * 6 + 0) ≤ 2) (w0 : 0 ≤ fa (j * 6 + 5)) (w9 : fa (j * 6 + 5) ≤ 9) (a0 : 0 ≤ ans) (a1 : ans ≤ 64) (a2 : fa (j * 6 + 2) ≤ dA c ds ans) : CT l mX4_readsInside 1 0 0 [.ref (a), .int (iI (j)), .int (iI (x)), .int (iI (ans))] NN h (rP (.int (iI (rdI c ds (fa (j * 6 + 0)) (fa (j * 6 + 2)) (fa (j * 6 + 5)) x ans))) h) := by
  have hA0 := hA
  obtain ⟨hP, hD, hF, hlt⟩ := hA
  have dr := dA_rng hO ans
  refine CT.of (by decide) (Nat.le_of_ble_eq_true rfl) ?_
  refine g_al (al2 := [some (.ref (a)), some (.int (iI (j))), some (.int (iI (x))), some (.int (iI (ans))), none, none, none, none]) rfl ?_
  refine g_aload_n (q := 1) rfl rfl dX4_readsInside_0 rfl ?_
  refine g_iload_n (q := 2) rfl rfl dX4_readsInside_1 rfl ?_
  refine g_iconst (q := 3) dX4_readsInside_2 rfl ?_
  refine g_Vr (q := 6) (d' := 0) (i := a) (av := [.int (iI (j)), .int (iI (2))]) (st := []) (v := .int (iI (fa (j * 6 + 2)))) kvX4_44 (t_X4_factOf l h a c m ds fa hA0 j 2 h0 h1 (by decide) (by decide)) (by show _ < 103; omega) hP rfl (Nat.le_of_ble_eq_true rfl) ⟨(Nat.le_of_ble_eq_true rfl), (Nat.le_of_ble_eq_true rfl)⟩ ⟨(Nat.le_of_ble_eq_true rfl), (Nat.le_of_ble_eq_true rfl)⟩ rfl rfl dX4_readsInside_3 rfl ?_
  refine g_istore (q := 8) (al2 := [some (.ref (a)), some (.int (iI (j))), some (.int (iI (x))), some (.int (iI (ans))), some (.int (iI (fa (j * 6 + 2)))), none, none, none]) (by decide) rfl rfl dX4_readsInside_6 rfl ?_
  refine g_aload_n (q := 9) rfl rfl dX4_readsInside_8 rfl ?_
  refine g_iload_n (q := 10) rfl rfl dX4_readsInside_9 rfl ?_
  refine g_iconst (q := 11) dX4_readsInside_10 rfl ?_
  refine g_Vr (q := 14) (d' := 0) (i := a) (av := [.int (iI (j)), .int (iI (0))]) (st := []) (v := .int (iI (fa (j * 6 + 0)))) kvX4_44 (t_X4_factOf l h a c m ds fa hA0 j 0 h0 h1 (by decide) (by decide)) (by show _ < 103; omega) hP rfl (Nat.le_of_ble_eq_true rfl) ⟨(Nat.le_of_ble_eq_true rfl), (Nat.le_of_ble_eq_true rfl)⟩ ⟨(Nat.le_of_ble_eq_true rfl), (Nat.le_of_ble_eq_true rfl)⟩ rfl rfl dX4_readsInside_11 rfl ?_
  refine g_istore (q := 16) (al2 := [some (.ref (a)), some (.int (iI (j))), some (.int (iI (x))), some (.int (iI (ans))), some (.int (iI (fa (j * 6 + 2)))), some (.int (iI (fa (j * 6 + 0)))), none, none]) (by decide) rfl rfl dX4_readsInside_14 rfl ?_
  refine g_iload (q := 18) rfl dX4_readsInside_16 rfl ?_
  refine g_iconst (q := 19) dX4_readsInside_18 rfl ?_
  refine g_icmp_ne (t := 44) (q := 22) ⟨by omega, by omega⟩ ⟨by omega, by omega⟩ dX4_readsInside_19 rfl rfl (fun c19 => ?_) (fun c19 => ?_)
  · refine g_iload (q := 46) rfl dX4_readsInside_44 rfl ?_
    refine g_iconst (q := 47) dX4_readsInside_46 rfl ?_
    refine g_icmp_ne (t := 86) (q := 50) ⟨by omega, by omega⟩ ⟨by omega, by omega⟩ dX4_readsInside_47 rfl rfl (fun c47 => ?_) (fun c47 => ?_)
    · refine g_iconst (q := 87) dX4_readsInside_86 rfl ?_
      have e1 : rdI c ds (fa (j * 6 + 0)) (fa (j * 6 + 2)) (fa (j * 6 + 5)) x ans = 0 := by unfold rdI; rw [if_neg c19, if_neg c47]
      rw [e1]
      exact g_ireturn (fun z => NN_f z) (Nat.le_of_ble_eq_true rfl) (Nat.le_of_ble_eq_true rfl) dX4_readsInside_87 rfl rP_in
    · refine g_aload_n (q := 51) rfl rfl dX4_readsInside_50 rfl ?_
      refine g_iload_n (q := 52) rfl rfl dX4_readsInside_51 rfl ?_
      refine g_iconst (q := 53) dX4_readsInside_52 rfl ?_
      refine g_Vr (q := 56) (d' := 0) (i := a) (av := [.int (iI (j)), .int (iI (5))]) (st := []) (v := .int (iI (fa (j * 6 + 5)))) kvX4_44 (t_X4_factOf l h a c m ds fa hA0 j 5 h0 h1 (by decide) (by decide)) (by show _ < 103; omega) hP rfl (Nat.le_of_ble_eq_true rfl) ⟨(Nat.le_of_ble_eq_true rfl), (Nat.le_of_ble_eq_true rfl)⟩ ⟨(Nat.le_of_ble_eq_true rfl), (Nat.le_of_ble_eq_true rfl)⟩ rfl rfl dX4_readsInside_53 rfl ?_
      obtain ⟨d1, d2⟩ := div2_nn (a := x - fa (j * 6 + 2)) (w := fa (j * 6 + 5)) (by omega)
      have p5 := p2_512 w0 w9
      have pp := p2_pos (fa (j * 6 + 5)).toNat
      have d3 : (x - fa (j * 6 + 2)) / 2 ^ (fa (j * 6 + 5)).toNat * 2 ^ (fa (j * 6 + 5)).toNat ≤ x - fa (j * 6 + 2) := Int.ediv_mul_le _ (by omega)
      have d4 : 0 ≤ (x - fa (j * 6 + 2)) / 2 ^ (fa (j * 6 + 5)).toNat * 2 ^ (fa (j * 6 + 5)).toNat := Int.mul_nonneg d1 (by omega)
      refine g_istore (q := 58) (al2 := [some (.ref (a)), some (.int (iI (j))), some (.int (iI (x))), some (.int (iI (ans))), some (.int (iI (fa (j * 6 + 2)))), some (.int (iI (fa (j * 6 + 0)))), some (.int (iI (fa (j * 6 + 5)))), none]) (by decide) rfl rfl dX4_readsInside_56 rfl ?_
      refine g_iload (q := 60) rfl dX4_readsInside_58 rfl ?_
      refine g_iload_n (q := 61) rfl rfl dX4_readsInside_60 rfl ?_
      refine g_iload (q := 63) rfl dX4_readsInside_61 rfl ?_
      refine g_isub (q := 64) dX4_readsInside_63 rfl ?_
      refine g_iload (q := 66) rfl dX4_readsInside_64 rfl ?_
      refine g_ishr (q := 67) (by omega) (by omega) (by omega) (by omega) dX4_readsInside_66 rfl ?_
      refine g_iload (q := 69) rfl dX4_readsInside_67 rfl ?_
      refine g_ishl (q := 70) (by omega) (by omega) (by omega) (by omega) dX4_readsInside_69 rfl ?_
      refine g_iadd (q := 71) dX4_readsInside_70 rfl ?_
      refine g_istore (q := 73) (al2 := [some (.ref (a)), some (.int (iI (j))), some (.int (iI (x))), some (.int (iI (ans))), some (.int (iI (fa (j * 6 + 2)))), some (.int (iI (fa (j * 6 + 0)))), some (.int (iI (fa (j * 6 + 5)))), some (.int (iI ((fa (j * 6 + 2)) + (((x - (fa (j * 6 + 2))) / 2 ^ (fa (j * 6 + 5) : Int).toNat) * 2 ^ (fa (j * 6 + 5) : Int).toNat))))]) (by decide) rfl rfl dX4_readsInside_71 rfl ?_
      refine g_iconst (q := 74) dX4_readsInside_73 rfl ?_
      refine g_iload_n (q := 75) rfl rfl dX4_readsInside_74 rfl ?_
      refine g_iadd (q := 76) dX4_readsInside_75 rfl ?_
      refine g_aload_n (q := 77) rfl rfl dX4_readsInside_76 rfl ?_
      refine g_iload (q := 79) rfl dX4_readsInside_77 rfl ?_
      refine g_Vr (q := 82) (d' := 0) (i := a) (av := [.int (iI ((fa (j * 6 + 2)) + (((x - (fa (j * 6 + 2))) / 2 ^ (fa (j * 6 + 5) : Int).toNat) * 2 ^ (fa (j * 6 + 5) : Int).toNat)))]) (st := [.int (iI (1 + ans))]) (v := .int (iI (cb c ds (fa (j * 6 + 2) + (x - fa (j * 6 + 2)) / 2 ^ (fa (j * 6 + 5)).toNat * 2 ^ (fa (j * 6 + 5)).toNat)))) kvX4_54 (t_X4_countBelow l h a c m ds fa hA0 hO (fa (j * 6 + 2) + (x - fa (j * 6 + 2)) / 2 ^ (fa (j * 6 + 5)).toNat * 2 ^ (fa (j * 6 + 5)).toNat) ⟨by omega, by omega⟩) (by show _ < 103; omega) hP rfl (Nat.le_of_ble_eq_true rfl) ⟨(Nat.le_of_ble_eq_true rfl), (Nat.le_of_ble_eq_true rfl)⟩ ⟨(Nat.le_of_ble_eq_true rfl), (Nat.le_of_ble_eq_true rfl)⟩ rfl rfl dX4_readsInside_79 rfl ?_
      refine g_isub (q := 83) dX4_readsInside_82 rfl ?_
      refine g_iconst (q := 84) dX4_readsInside_83 rfl ?_
      refine g_iadd (q := 85) dX4_readsInside_84 rfl ?_
      have e1 : rdI c ds (fa (j * 6 + 0)) (fa (j * 6 + 2)) (fa (j * 6 + 5)) x ans = 1 + ans - cb c ds (fa (j * 6 + 2) + (x - fa (j * 6 + 2)) / 2 ^ (fa (j * 6 + 5)).toNat * 2 ^ (fa (j * 6 + 5)).toNat) + 1 := by unfold rdI; rw [if_neg c19, if_pos c47]
      rw [e1]
      exact g_ireturn (fun z => NN_f z) (Nat.le_of_ble_eq_true rfl) (Nat.le_of_ble_eq_true rfl) dX4_readsInside_85 rfl rP_in
  · refine g_aload_n (q := 23) rfl rfl dX4_readsInside_22 rfl ?_
    refine g_iload_n (q := 24) rfl rfl dX4_readsInside_23 rfl ?_
    refine g_Vr (q := 27) (d' := 0) (i := a) (av := [.int (iI (ans))]) (st := []) (v := .int (iI (dA c ds ans))) kvX4_31 (t_X4_documentAt l h a c m ds fa hA0 hO ans ⟨by omega, by omega⟩) (by show _ < 103; omega) hP rfl (Nat.le_of_ble_eq_true rfl) ⟨(Nat.le_of_ble_eq_true rfl), (Nat.le_of_ble_eq_true rfl)⟩ ⟨(Nat.le_of_ble_eq_true rfl), (Nat.le_of_ble_eq_true rfl)⟩ rfl rfl dX4_readsInside_24 rfl ?_
    refine g_iload (q := 29) rfl dX4_readsInside_27 rfl ?_
    refine g_isub (q := 30) dX4_readsInside_29 rfl ?_
    refine g_bipush (q := 32) (by decide) dX4_readsInside_30 rfl ?_
    refine g_idiv (q := 33) (by omega) (by omega) (by omega) (by omega) dX4_readsInside_32 rfl ?_
    refine g_iload_n (q := 34) rfl rfl dX4_readsInside_33 rfl ?_
    refine g_iload (q := 36) rfl dX4_readsInside_34 rfl ?_
    refine g_isub (q := 37) dX4_readsInside_36 rfl ?_
    refine g_bipush (q := 39) (by decide) dX4_readsInside_37 rfl ?_
    refine g_idiv (q := 40) (by omega) (by omega) (by omega) (by omega) dX4_readsInside_39 rfl ?_
    refine g_isub (q := 41) dX4_readsInside_40 rfl ?_
    refine g_iconst (q := 42) dX4_readsInside_41 rfl ?_
    refine g_iadd (q := 43) dX4_readsInside_42 rfl ?_
    have e1 : rdI c ds (fa (j * 6 + 0)) (fa (j * 6 + 2)) (fa (j * 6 + 5)) x ans = (dA c ds ans - fa (j * 6 + 2)) / 8 - (x - fa (j * 6 + 2)) / 8 + 1 := by unfold rdI; rw [if_pos c19]
    rw [e1]
    exact g_ireturn (fun z => NN_f z) (Nat.le_of_ble_eq_true rfl) (Nat.le_of_ble_eq_true rfl) dX4_readsInside_43 rfl rP_in
