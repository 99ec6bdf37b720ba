/-! ===== constructors of the small classes and of a state ===== -/
set_option maxRecDepth 4000 in
theorem t_X0_init (l : Launch) (h : EHp) (a : Nat) (ha : h a = cO 0 [.null, .int (iI (0)), .int (iI (0))]) : CT l mX0_init 1 1 8 [.ref (a)] (a + 1, true) h (nP (a + 2) (fun h' => (∃ ks, h' a = cO 0 [.ref (a + 1), .int (iI 0), .int (iI 4)] ∧ h' (a + 1) = cI 8 ks) ∧ ∀ j, j < a → h' j = h j)) := by
  refine CT.of (by decide) (Nat.le_of_ble_eq_true rfl) ?_
  refine g_al (al2 := [some (.ref (a))]) rfl ?_
  refine g_aload_n (q := 1) rfl rfl dX0_init_0 rfl ?_
  refine g_objInit (q := 4) oiX0_3 (Nat.le_of_ble_eq_true rfl) (Nat.le_of_ble_eq_true rfl) dX0_init_1 rfl ?_
  refine g_aload_n (q := 5) rfl rfl dX0_init_4 rfl ?_
  refine g_bipush (q := 7) (by decide) dX0_init_5 rfl ?_
  refine g_newa_int (q := 9) (nn := 8) ak_int rfl (by decide) (Nat.le_of_ble_eq_true rfl) (Nat.le_of_ble_eq_true rfl) dX0_init_7 rfl ?_
  show G l noX mX0_init 1 1 8 (nP (a + 2) (fun h' => (∃ ks, h' a = cO 0 [.ref (a + 1), .int (iI 0), .int (iI 4)] ∧ h' (a + 1) = cI 8 ks) ∧ ∀ j, j < a → h' j = h j)) 1 8 9 [some (.ref (a))] [.ref (a + 1), .ref (a)] (a + 2, true) (ueh h (a + 1) (cI 8 (fun _ => 0)))
  refine hp_in (fun hh1 ehh1 => ?_)
  have fc2 : hh1 a = cO 0 [.null, .int (iI (0)), .int (iI (0))] := by rw [ehh1, ueh_n (by omega)]; exact ha
  have fc3 : hh1 (a + 1) = cI 8 (fun _ => 0) := by rw [ehh1]; exact ueh_s
  refine g_putF (q := 12) fX0_9 rfl (by show _ < a + 2; omega) fc2 (Nat.le_of_ble_eq_true rfl) (fun _ _ => rfl) (fun _ _ => rfl) dX0_init_9 rfl ?_
  refine hp_in (fun hh4 ehh4 => ?_)
  have fc5 : hh4 a = cO 0 [.ref (a + 1), .int (iI (0)), .int (iI (0))] := by rw [ehh4]; exact ueh_s
  have fc6 : hh4 (a + 1) = cI 8 (fun _ => 0) := by rw [ehh4, ueh_n (by omega)]; exact fc3
  refine g_aload_n (q := 13) rfl rfl dX0_init_12 rfl ?_
  refine g_iconst (q := 14) dX0_init_13 rfl ?_
  refine g_put (q := 17) fX0_15 (by show _ < a + 2; omega) fc5 (Nat.le_of_ble_eq_true rfl) (fun _ _ => rfl) (fun _ _ => rfl) dX0_init_14 rfl ?_
  refine hp_in (fun hh7 ehh7 => ?_)
  have fc8 : hh7 a = cO 0 [.ref (a + 1), .int (iI (0)), .int (iI (0))] := by rw [ehh7]; exact ueh_s
  have fc9 : hh7 (a + 1) = cI 8 (fun _ => 0) := by rw [ehh7, ueh_n (by omega)]; exact fc6
  refine g_aload_n (q := 18) rfl rfl dX0_init_17 rfl ?_
  refine g_iconst (q := 19) dX0_init_18 rfl ?_
  refine g_put (q := 22) fX0_19 (by show _ < a + 2; omega) fc8 (Nat.le_of_ble_eq_true rfl) (fun _ _ => rfl) (fun _ _ => rfl) dX0_init_19 rfl ?_
  refine hp_in (fun hh10 ehh10 => ?_)
  have fc11 : hh10 a = cO 0 [.ref (a + 1), .int (iI (0)), .int (iI (4))] := by rw [ehh10]; exact ueh_s
  have fc12 : hh10 (a + 1) = cI 8 (fun _ => 0) := by rw [ehh10, ueh_n (by omega)]; exact fc9
  exact g_vreturn (fun _ => rfl) (Nat.le_of_ble_eq_true rfl) (Nat.le_of_ble_eq_true rfl) dX0_init_22 rfl (nP_in ⟨⟨_, fc11, fc12⟩, fun j hj => by rw [ehh10, ueh_n (by omega), ehh7, ueh_n (by omega), ehh4, ueh_n (by omega), ehh1, ueh_n (by omega)]⟩)
set_option maxRecDepth 4000 in
theorem t_X1_init (l : Launch) (h : EHp) (a : Nat) (ha : h a = cO 1 [.null, .int (iI (0))]) : CT l mX1_init 1 1 538 [.ref (a)] (a + 1, true) h (nP (a + 2) (fun h' => (∃ bs, h' a = cO 1 [.ref (a + 1), .int (iI 0)] ∧ h' (a + 1) = cI 538 bs) ∧ ∀ j, j < a → h' j = h j)) := by
  refine CT.of (by decide) (Nat.le_of_ble_eq_true rfl) ?_
  refine g_al (al2 := [some (.ref (a))]) rfl ?_
  refine g_aload_n (q := 1) rfl rfl dX1_init_0 rfl ?_
  refine g_objInit (q := 4) oiX1_3 (Nat.le_of_ble_eq_true rfl) (Nat.le_of_ble_eq_true rfl) dX1_init_1 rfl ?_
  refine g_aload_n (q := 5) rfl rfl dX1_init_4 rfl ?_
  refine g_sipush (q := 8) (by decide) dX1_init_5 rfl ?_
  refine g_newa_int (q := 10) (nn := 538) ak_int rfl (by decide) (Nat.le_of_ble_eq_true rfl) (Nat.le_of_ble_eq_true rfl) dX1_init_8 rfl ?_
  show G l noX mX1_init 1 1 538 (nP (a + 2) (fun h' => (∃ bs, h' a = cO 1 [.ref (a + 1), .int (iI 0)] ∧ h' (a + 1) = cI 538 bs) ∧ ∀ j, j < a → h' j = h j)) 1 538 10 [some (.ref (a))] [.ref (a + 1), .ref (a)] (a + 2, true) (ueh h (a + 1) (cI 538 (fun _ => 0)))
  refine hp_in (fun hh1 ehh1 => ?_)
  have fc2 : hh1 a = cO 1 [.null, .int (iI (0))] := by rw [ehh1, ueh_n (by omega)]; exact ha
  have fc3 : hh1 (a + 1) = cI 538 (fun _ => 0) := by rw [ehh1]; exact ueh_s
  refine g_putF (q := 13) fX1_9 rfl (by show _ < a + 2; omega) fc2 (Nat.le_of_ble_eq_true rfl) (fun _ _ => rfl) (fun _ _ => rfl) dX1_init_10 rfl ?_
  refine hp_in (fun hh4 ehh4 => ?_)
  have fc5 : hh4 a = cO 1 [.ref (a + 1), .int (iI (0))] := by rw [ehh4]; exact ueh_s
  have fc6 : hh4 (a + 1) = cI 538 (fun _ => 0) := by rw [ehh4, ueh_n (by omega)]; exact fc3
  refine g_aload_n (q := 14) rfl rfl dX1_init_13 rfl ?_
  refine g_iconst (q := 15) dX1_init_14 rfl ?_
  refine g_put (q := 18) fX1_15 (by show _ < a + 2; omega) fc5 (Nat.le_of_ble_eq_true rfl) (fun _ _ => rfl) (fun _ _ => rfl) dX1_init_15 rfl ?_
  refine hp_in (fun hh7 ehh7 => ?_)
  have fc8 : hh7 a = cO 1 [.ref (a + 1), .int (iI (0))] := by rw [ehh7]; exact ueh_s
  have fc9 : hh7 (a + 1) = cI 538 (fun _ => 0) := by rw [ehh7, ueh_n (by omega)]; exact fc6
  exact g_vreturn (fun _ => rfl) (Nat.le_of_ble_eq_true rfl) (Nat.le_of_ble_eq_true rfl) dX1_init_18 rfl (nP_in ⟨⟨_, fc8, fc9⟩, fun j hj => by rw [ehh7, ueh_n (by omega), ehh4, ueh_n (by omega), ehh1, ueh_n (by omega)]⟩)
set_option maxRecDepth 4000 in
theorem t_X3_init (l : Launch) (h : EHp) (a : Nat) (ha : h a = cO 3 [.null, .null]) : CT l mX3_init 1 2 130 [.ref (a)] (a + 1, true) h (nP (a + 3) (fun h' => (∃ Ws Es, h' a = cO 3 [.ref (a + 1), .ref (a + 2)] ∧ h' (a + 1) = cI 65 Ws ∧ h' (a + 2) = cI 65 Es) ∧ ∀ j, j < a → h' j = h j)) := by
  refine CT.of (by decide) (Nat.le_of_ble_eq_true rfl) ?_
  refine g_al (al2 := [some (.ref (a))]) rfl ?_
  refine g_aload_n (q := 1) rfl rfl dX3_init_0 rfl ?_
  refine g_objInit (q := 4) oiX3_3 (Nat.le_of_ble_eq_true rfl) (Nat.le_of_ble_eq_true rfl) dX3_init_1 rfl ?_
  refine g_aload_n (q := 5) rfl rfl dX3_init_4 rfl ?_
  refine g_bipush (q := 7) (by decide) dX3_init_5 rfl ?_
  refine g_newa_int (q := 9) (nn := 65) ak_int rfl (by decide) (Nat.le_of_ble_eq_true rfl) (Nat.le_of_ble_eq_true rfl) dX3_init_7 rfl ?_
  show G l noX mX3_init 1 2 130 (nP (a + 3) (fun h' => (∃ Ws Es, h' a = cO 3 [.ref (a + 1), .ref (a + 2)] ∧ h' (a + 1) = cI 65 Ws ∧ h' (a + 2) = cI 65 Es) ∧ ∀ j, j < a → h' j = h j)) 1 65 9 [some (.ref (a))] [.ref (a + 1), .ref (a)] (a + 2, true) (ueh h (a + 1) (cI 65 (fun _ => 0)))
  refine hp_in (fun hh1 ehh1 => ?_)
  have fc2 : hh1 a = cO 3 [.null, .null] := by rw [ehh1, ueh_n (by omega)]; exact ha
  have fc3 : hh1 (a + 1) = cI 65 (fun _ => 0) := by rw [ehh1]; exact ueh_s
  refine g_putF (q := 12) fX3_9 rfl (by show _ < a + 2; omega) fc2 (Nat.le_of_ble_eq_true rfl) (fun _ _ => rfl) (fun _ _ => rfl) dX3_init_9 rfl ?_
  refine hp_in (fun hh4 ehh4 => ?_)
  have fc5 : hh4 a = cO 3 [.ref (a + 1), .null] := by rw [ehh4]; exact ueh_s
  have fc6 : hh4 (a + 1) = cI 65 (fun _ => 0) := by rw [ehh4, ueh_n (by omega)]; exact fc3
  refine g_aload_n (q := 13) rfl rfl dX3_init_12 rfl ?_
  refine g_bipush (q := 15) (by decide) dX3_init_13 rfl ?_
  refine g_newa_int (q := 17) (nn := 65) ak_int rfl (by decide) (Nat.le_of_ble_eq_true rfl) (Nat.le_of_ble_eq_true rfl) dX3_init_15 rfl ?_
  show G l noX mX3_init 1 2 130 (nP (a + 3) (fun h' => (∃ Ws Es, h' a = cO 3 [.ref (a + 1), .ref (a + 2)] ∧ h' (a + 1) = cI 65 Ws ∧ h' (a + 2) = cI 65 Es) ∧ ∀ j, j < a → h' j = h j)) 2 130 17 [some (.ref (a))] [.ref (a + 2), .ref (a)] (a + 3, true) (ueh hh4 (a + 2) (cI 65 (fun _ => 0)))
  refine hp_in (fun hh7 ehh7 => ?_)
  have fc8 : hh7 a = cO 3 [.ref (a + 1), .null] := by rw [ehh7, ueh_n (by omega)]; exact fc5
  have fc9 : hh7 (a + 1) = cI 65 (fun _ => 0) := by rw [ehh7, ueh_n (by omega)]; exact fc6
  have fc10 : hh7 (a + 2) = cI 65 (fun _ => 0) := by rw [ehh7]; exact ueh_s
  refine g_putF (q := 20) fX3_15 rfl (by show _ < a + 3; omega) fc8 (Nat.le_of_ble_eq_true rfl) (fun _ _ => rfl) (fun _ _ => rfl) dX3_init_17 rfl ?_
  refine hp_in (fun hh11 ehh11 => ?_)
  have fc12 : hh11 a = cO 3 [.ref (a + 1), .ref (a + 2)] := by rw [ehh11]; exact ueh_s
  have fc13 : hh11 (a + 1) = cI 65 (fun _ => 0) := by rw [ehh11, ueh_n (by omega)]; exact fc9
  have fc14 : hh11 (a + 2) = cI 65 (fun _ => 0) := by rw [ehh11, ueh_n (by omega)]; exact fc10
  exact g_vreturn (fun _ => rfl) (Nat.le_of_ble_eq_true rfl) (Nat.le_of_ble_eq_true rfl) dX3_init_20 rfl (nP_in ⟨⟨_, _, fc12, fc13, fc14⟩, fun j hj => by rw [ehh11, ueh_n (by omega), ehh7, ueh_n (by omega), ehh4, ueh_n (by omega), ehh1, ueh_n (by omega)]⟩)
set_option maxRecDepth 4000 in
theorem t_X4_init (l : Launch) (h : EHp) (a : Nat) (ha : h a = cO 4 [.null, .int (iI (0)), .null, .int (iI (0))]) : CT l mX4_init 1 2 448 [.ref (a)] (a + 1, true) h (nP (a + 3) (fun h' => (∃ ds fa, h' a = cO 4 [.ref (a + 1), .int (iI 0), .ref (a + 2), .int (iI 0)] ∧ h' (a + 1) = cI 64 ds ∧ h' (a + 2) = cI 384 fa) ∧ ∀ j, j < a → h' j = h j)) := by
  refine CT.of (by decide) (Nat.le_of_ble_eq_true rfl) ?_
  refine g_al (al2 := [some (.ref (a))]) rfl ?_
  refine g_aload_n (q := 1) rfl rfl dX4_init_0 rfl ?_
  refine g_objInit (q := 4) oiX4_3 (Nat.le_of_ble_eq_true rfl) (Nat.le_of_ble_eq_true rfl) dX4_init_1 rfl ?_
  refine g_aload_n (q := 5) rfl rfl dX4_init_4 rfl ?_
  refine g_bipush (q := 7) (by decide) dX4_init_5 rfl ?_
  refine g_newa_int (q := 9) (nn := 64) ak_int rfl (by decide) (Nat.le_of_ble_eq_true rfl) (Nat.le_of_ble_eq_true rfl) dX4_init_7 rfl ?_
  show G l noX mX4_init 1 2 448 (nP (a + 3) (fun h' => (∃ ds fa, h' a = cO 4 [.ref (a + 1), .int (iI 0), .ref (a + 2), .int (iI 0)] ∧ h' (a + 1) = cI 64 ds ∧ h' (a + 2) = cI 384 fa) ∧ ∀ j, j < a → h' j = h j)) 1 64 9 [some (.ref (a))] [.ref (a + 1), .ref (a)] (a + 2, true) (ueh h (a + 1) (cI 64 (fun _ => 0)))
  refine hp_in (fun hh1 ehh1 => ?_)
  have fc2 : hh1 a = cO 4 [.null, .int (iI (0)), .null, .int (iI (0))] := by rw [ehh1, ueh_n (by omega)]; exact ha
  have fc3 : hh1 (a + 1) = cI 64 (fun _ => 0) := by rw [ehh1]; exact ueh_s
  refine g_putF (q := 12) fX4_9 rfl (by show _ < a + 2; omega) fc2 (Nat.le_of_ble_eq_true rfl) (fun _ _ => rfl) (fun _ _ => rfl) dX4_init_9 rfl ?_
  refine hp_in (fun hh4 ehh4 => ?_)
  have fc5 : hh4 a = cO 4 [.ref (a + 1), .int (iI (0)), .null, .int (iI (0))] := by rw [ehh4]; exact ueh_s
  have fc6 : hh4 (a + 1) = cI 64 (fun _ => 0) := by rw [ehh4, ueh_n (by omega)]; exact fc3
  refine g_aload_n (q := 13) rfl rfl dX4_init_12 rfl ?_
  refine g_iconst (q := 14) dX4_init_13 rfl ?_
  refine g_put (q := 17) fX4_15 (by show _ < a + 2; omega) fc5 (Nat.le_of_ble_eq_true rfl) (fun _ _ => rfl) (fun _ _ => rfl) dX4_init_14 rfl ?_
  refine hp_in (fun hh7 ehh7 => ?_)
  have fc8 : hh7 a = cO 4 [.ref (a + 1), .int (iI (0)), .null, .int (iI (0))] := by rw [ehh7]; exact ueh_s
  have fc9 : hh7 (a + 1) = cI 64 (fun _ => 0) := by rw [ehh7, ueh_n (by omega)]; exact fc6
  refine g_aload_n (q := 18) rfl rfl dX4_init_17 rfl ?_
  refine g_sipush (q := 21) (by decide) dX4_init_18 rfl ?_
  refine g_newa_int (q := 23) (nn := 384) ak_int rfl (by decide) (Nat.le_of_ble_eq_true rfl) (Nat.le_of_ble_eq_true rfl) dX4_init_21 rfl ?_
  show G l noX mX4_init 1 2 448 (nP (a + 3) (fun h' => (∃ ds fa, h' a = cO 4 [.ref (a + 1), .int (iI 0), .ref (a + 2), .int (iI 0)] ∧ h' (a + 1) = cI 64 ds ∧ h' (a + 2) = cI 384 fa) ∧ ∀ j, j < a → h' j = h j)) 2 448 23 [some (.ref (a))] [.ref (a + 2), .ref (a)] (a + 3, true) (ueh hh7 (a + 2) (cI 384 (fun _ => 0)))
  refine hp_in (fun hh10 ehh10 => ?_)
  have fc11 : hh10 a = cO 4 [.ref (a + 1), .int (iI (0)), .null, .int (iI (0))] := by rw [ehh10, ueh_n (by omega)]; exact fc8
  have fc12 : hh10 (a + 1) = cI 64 (fun _ => 0) := by rw [ehh10, ueh_n (by omega)]; exact fc9
  have fc13 : hh10 (a + 2) = cI 384 (fun _ => 0) := by rw [ehh10]; exact ueh_s
  refine g_putF (q := 26) fX4_19 rfl (by show _ < a + 3; omega) fc11 (Nat.le_of_ble_eq_true rfl) (fun _ _ => rfl) (fun _ _ => rfl) dX4_init_23 rfl ?_
  refine hp_in (fun hh14 ehh14 => ?_)
  have fc15 : hh14 a = cO 4 [.ref (a + 1), .int (iI (0)), .ref (a + 2), .int (iI (0))] := by rw [ehh14]; exact ueh_s
  have fc16 : hh14 (a + 1) = cI 64 (fun _ => 0) := by rw [ehh14, ueh_n (by omega)]; exact fc12
  have fc17 : hh14 (a + 2) = cI 384 (fun _ => 0) := by rw [ehh14, ueh_n (by omega)]; exact fc13
  refine g_aload_n (q := 27) rfl rfl dX4_init_26 rfl ?_
  refine g_iconst (q := 28) dX4_init_27 rfl ?_
  refine g_put (q := 31) fX4_22 (by show _ < a + 3; omega) fc15 (Nat.le_of_ble_eq_true rfl) (fun _ _ => rfl) (fun _ _ => rfl) dX4_init_28 rfl ?_
  refine hp_in (fun hh18 ehh18 => ?_)
  have fc19 : hh18 a = cO 4 [.ref (a + 1), .int (iI (0)), .ref (a + 2), .int (iI (0))] := by rw [ehh18]; exact ueh_s
  have fc20 : hh18 (a + 1) = cI 64 (fun _ => 0) := by rw [ehh18, ueh_n (by omega)]; exact fc16
  have fc21 : hh18 (a + 2) = cI 384 (fun _ => 0) := by rw [ehh18, ueh_n (by omega)]; exact fc17
  exact g_vreturn (fun _ => rfl) (Nat.le_of_ble_eq_true rfl) (Nat.le_of_ble_eq_true rfl) dX4_init_31 rfl (nP_in ⟨⟨_, _, fc19, fc20, fc21⟩, fun j hj => by rw [ehh18, ueh_n (by omega), ehh14, ueh_n (by omega), ehh10, ueh_n (by omega), ehh7, ueh_n (by omega), ehh4, ueh_n (by omega), ehh1, ueh_n (by omega)]⟩)
set_option maxRecDepth 4000 in
theorem t_X6_init (l : Launch) (h : EHp) (s : Nat) (hs9 : s + 15 < 103) (ha : h s = cO 5 [.null, .null, .int (iI 0), .int (iI 0)]) : CT l mX6_init 2 15 1823 [.ref (s)] (s + 1, true) h (nP (s + 16) (fun h' => SA h' s S0 ∧ ∀ j, j < s → h' j = h j)) := by
  refine CT.of (by decide) (Nat.le_of_ble_eq_true rfl) ?_
  refine g_al (al2 := [some (.ref (s)), none]) rfl ?_
  refine g_aload_n (q := 1) rfl rfl dX6_init_0 rfl ?_
  refine g_objInit (q := 4) oiX6_3 (Nat.le_of_ble_eq_true rfl) (Nat.le_of_ble_eq_true rfl) dX6_init_1 rfl ?_
  refine g_aload_n (q := 5) rfl rfl dX6_init_4 rfl ?_
  refine g_iconst (q := 6) dX6_init_5 rfl ?_
  refine g_anew_P (q := 9) (nn := 4) tw_31 rfl (by decide) (Nat.le_of_ble_eq_true rfl) (Nat.le_of_ble_eq_true rfl) dX6_init_6 rfl ?_
  show G l noX mX6_init 2 15 1823 (nP (s + 16) (fun h' => SA h' s S0 ∧ ∀ j, j < s → h' j = h j)) 1 4 9 [some (.ref (s)), none] [.ref (s + 1), .ref (s)] (s + 2, true) (ueh h (s + 1) (cR 4 4 (fun _ => none)))
  refine hp_in (fun hh1 ehh1 => ?_)
  have fc2 : hh1 s = cO 5 [.null, .null, .int (iI (0)), .int (iI (0))] := by rw [ehh1, ueh_n (by omega)]; exact ha
  have fc3 : hh1 (s + 1) = cR 4 4 (fun _ => none) := by rw [ehh1]; exact ueh_s
  refine g_putF (q := 12) fX6_11 rfl (by show _ < s + 2; omega) fc2 (Nat.le_of_ble_eq_true rfl) (fun _ _ => rfl) (fun _ _ => rfl) dX6_init_9 rfl ?_
  refine hp_in (fun hh4 ehh4 => ?_)
  have fc5 : hh4 s = cO 5 [.ref (s + 1), .null, .int (iI (0)), .int (iI (0))] := by rw [ehh4]; exact ueh_s
  have fc6 : hh4 (s + 1) = cR 4 4 (fun _ => none) := by rw [ehh4, ueh_n (by omega)]; exact fc3
  refine g_aload_n (q := 13) rfl rfl dX6_init_12 rfl ?_
  refine g_new (q := 16) nwX6_17 rfl (Nat.le_of_ble_eq_true rfl) (Nat.le_of_ble_eq_true rfl) dX6_init_13 rfl ?_
  show G l noX mX6_init 2 15 1823 (nP (s + 16) (fun h' => SA h' s S0 ∧ ∀ j, j < s → h' j = h j)) 2 7 16 [some (.ref (s)), none] [.ref (s + 2), .ref (s)] (s + 3, true) (ueh hh4 (s + 2) (cO 0 [.null, .int (iI (0)), .int (iI (0))]))
  refine hp_in (fun hh7 ehh7 => ?_)
  have fc8 : hh7 s = cO 5 [.ref (s + 1), .null, .int (iI (0)), .int (iI (0))] := by rw [ehh7, ueh_n (by omega)]; exact fc5
  have fc9 : hh7 (s + 1) = cR 4 4 (fun _ => none) := by rw [ehh7, ueh_n (by omega)]; exact fc6
  have fc10 : hh7 (s + 2) = cO 0 [.null, .int (iI (0)), .int (iI (0))] := by rw [ehh7]; exact ueh_s
  refine g_dup (q := 17) rfl dX6_init_16 rfl ?_
  refine g_INv (q := 20) (d' := 1) (mc' := 1) (ms' := 8) (i := s + 2) (av := []) (st := [.ref (s + 2), .ref (s)]) (M := s + 4) knX6_19 (t_X0_init l hh7 (s + 2) fc10) rfl rfl rfl (Nat.le_of_ble_eq_true rfl) ⟨(Nat.le_of_ble_eq_true rfl), (Nat.le_of_ble_eq_true rfl)⟩ ⟨(Nat.le_of_ble_eq_true rfl), (Nat.le_of_ble_eq_true rfl)⟩ rfl dX6_init_17 rfl (fun ga gp => ?_)
  show G l noX mX6_init 2 15 1823 (nP (s + 16) (fun h' => SA h' s S0 ∧ ∀ j, j < s → h' j = h j)) 3 15 20 [some (.ref (s)), none] [.ref (s + 2), .ref (s)] (s + 4, true) ga
  obtain ⟨⟨ks, c1, c2⟩, gf⟩ := gp
  have fr_a : ∀ j, j < s → ga j = h j := fun j hj => by rw [gf j (by omega), ehh7, ueh_n (by omega), ehh4, ueh_n (by omega), ehh1, ueh_n (by omega)]
  have fk11 : ga s = cO 5 [.ref (s + 1), .null, .int (iI (0)), .int (iI (0))] := (gf s (by omega)).trans fc8
  have fk12 : ga (s + 1) = cR 4 4 (fun _ => none) := (gf (s + 1) (by omega)).trans fc9
  refine g_putF (q := 23) fX6_20 rfl (by show _ < s + 4; omega) fk11 (Nat.le_of_ble_eq_true rfl) (fun _ _ => rfl) (fun _ _ => rfl) dX6_init_20 rfl ?_
  refine hp_in (fun hh13 ehh13 => ?_)
  have fc14 : hh13 s = cO 5 [.ref (s + 1), .ref (s + 2), .int (iI (0)), .int (iI (0))] := by rw [ehh13]; exact ueh_s
  have fc15 : hh13 (s + 1) = cR 4 4 (fun _ => none) := by rw [ehh13, ueh_n (by omega)]; exact fk12
  have fc16 : hh13 (s + 2) = cO 0 [.ref (s + 2 + 1), .int (iI (0)), .int (iI (4))] := by rw [ehh13, ueh_n (by omega)]; exact c1
  have fc17 : hh13 (s + 3) = cI 8 ks := by rw [ehh13, ueh_n (by omega)]; exact c2
  refine g_aload_n (q := 24) rfl rfl dX6_init_23 rfl ?_
  refine g_iconst (q := 25) dX6_init_24 rfl ?_
  refine g_put (q := 28) fX6_24 (by show _ < s + 4; omega) fc14 (Nat.le_of_ble_eq_true rfl) (fun _ _ => rfl) (fun _ _ => rfl) dX6_init_25 rfl ?_
  refine hp_in (fun hh18 ehh18 => ?_)
  have fc19 : hh18 s = cO 5 [.ref (s + 1), .ref (s + 2), .int (iI (0)), .int (iI (0))] := by rw [ehh18]; exact ueh_s
  have fc20 : hh18 (s + 1) = cR 4 4 (fun _ => none) := by rw [ehh18, ueh_n (by omega)]; exact fc15
  have fc21 : hh18 (s + 2) = cO 0 [.ref (s + 2 + 1), .int (iI (0)), .int (iI (4))] := by rw [ehh18, ueh_n (by omega)]; exact fc16
  have fc22 : hh18 (s + 3) = cI 8 ks := by rw [ehh18, ueh_n (by omega)]; exact fc17
  refine g_aload_n (q := 29) rfl rfl dX6_init_28 rfl ?_
  refine g_iconst (q := 30) dX6_init_29 rfl ?_
  refine g_put (q := 33) fX6_28 (by show _ < s + 4; omega) fc19 (Nat.le_of_ble_eq_true rfl) (fun _ _ => rfl) (fun _ _ => rfl) dX6_init_30 rfl ?_
  refine hp_in (fun hh23 ehh23 => ?_)
  have fc24 : hh23 s = cO 5 [.ref (s + 1), .ref (s + 2), .int (iI (0)), .int (iI (0))] := by rw [ehh23]; exact ueh_s
  have fc25 : hh23 (s + 1) = cR 4 4 (fun _ => none) := by rw [ehh23, ueh_n (by omega)]; exact fc20
  have fc26 : hh23 (s + 2) = cO 0 [.ref (s + 2 + 1), .int (iI (0)), .int (iI (4))] := by rw [ehh23, ueh_n (by omega)]; exact fc21
  have fc27 : hh23 (s + 3) = cI 8 ks := by rw [ehh23, ueh_n (by omega)]; exact fc22
  refine g_iconst (q := 34) dX6_init_33 rfl ?_
  refine g_istore_n (q := 35) (al2 := [some (.ref (s)), some (.int (iI (0)))]) rfl (by decide) rfl rfl dX6_init_34 rfl ?_
  refine g_iload_n (q := 36) rfl rfl dX6_init_35 rfl ?_
  refine g_iconst (q := 37) dX6_init_36 rfl ?_
  refine g_icmp_ge (t := 59) (q := 40) ⟨by omega, by omega⟩ ⟨by omega, by omega⟩ dX6_init_37 rfl rfl (fun c9 => by omega) (fun _ => ?_)
  refine g_aload_n (q := 41) rfl rfl dX6_init_40 rfl ?_
  refine g_get (q := 44) fX6_11r (by show _ < s + 4; omega) fc24 rfl dX6_init_41 rfl ?_
  refine g_iload_n (q := 45) rfl rfl dX6_init_44 rfl ?_
  refine g_new (q := 48) nwX6_9 rfl (Nat.le_of_ble_eq_true rfl) (Nat.le_of_ble_eq_true rfl) dX6_init_45 rfl ?_
  show G l noX mX6_init 2 15 1823 (nP (s + 16) (fun h' => SA h' s S0 ∧ ∀ j, j < s → h' j = h j)) 4 19 48 [some (.ref (s)), some (.int (iI (0)))] [.ref (s + 4), .int (iI (0)), .ref (s + 1)] (s + 5, true) (ueh hh23 (s + 4) (cO 4 [.null, .int (iI (0)), .null, .int (iI (0))]))
  refine hp_in (fun hh28 ehh28 => ?_)
  have fc29 : hh28 s = cO 5 [.ref (s + 1), .ref (s + 2), .int (iI (0)), .int (iI (0))] := by rw [ehh28, ueh_n (by omega)]; exact fc24
  have fc30 : hh28 (s + 1) = cR 4 4 (fun _ => none) := by rw [ehh28, ueh_n (by omega)]; exact fc25
  have fc31 : hh28 (s + 2) = cO 0 [.ref (s + 2 + 1), .int (iI (0)), .int (iI (4))] := by rw [ehh28, ueh_n (by omega)]; exact fc26
  have fc32 : hh28 (s + 3) = cI 8 ks := by rw [ehh28, ueh_n (by omega)]; exact fc27
  have fc33 : hh28 (s + 4) = cO 4 [.null, .int (iI (0)), .null, .int (iI (0))] := by rw [ehh28]; exact ueh_s
  refine g_dup (q := 49) rfl dX6_init_48 rfl ?_
  refine g_INv (q := 52) (d' := 1) (mc' := 2) (ms' := 448) (i := s + 4) (av := []) (st := [.ref (s + 4), .int (iI (0)), .ref (s + 1)]) (M := s + 7) knX6_31 (t_X4_init l hh28 (s + 4) fc33) rfl rfl rfl (Nat.le_of_ble_eq_true rfl) ⟨(Nat.le_of_ble_eq_true rfl), (Nat.le_of_ble_eq_true rfl)⟩ ⟨(Nat.le_of_ble_eq_true rfl), (Nat.le_of_ble_eq_true rfl)⟩ rfl dX6_init_49 rfl (fun g0 gp0 => ?_)
  show G l noX mX6_init 2 15 1823 (nP (s + 16) (fun h' => SA h' s S0 ∧ ∀ j, j < s → h' j = h j)) 6 467 52 [some (.ref (s)), some (.int (iI (0)))] [.ref (s + 4), .int (iI (0)), .ref (s + 1)] (s + 7, true) g0
  obtain ⟨⟨ds0, fa0, u0, v0, x0⟩, gf0⟩ := gp0
  have fr_0 : ∀ j, j < s → g0 j = h j := fun j hj => by rw [gf0 j (by omega), ehh28, ueh_n (by omega), ehh23, ueh_n (by omega), ehh18, ueh_n (by omega), ehh13, ueh_n (by omega)]; exact fr_a j hj
  have fk34 : g0 s = cO 5 [.ref (s + 1), .ref (s + 2), .int (iI (0)), .int (iI (0))] := (gf0 s (by omega)).trans fc29
  have fk35 : g0 (s + 1) = cR 4 4 (fun _ => none) := (gf0 (s + 1) (by omega)).trans fc30
  have fk36 : g0 (s + 2) = cO 0 [.ref (s + 2 + 1), .int (iI (0)), .int (iI (4))] := (gf0 (s + 2) (by omega)).trans fc31
  have fk37 : g0 (s + 3) = cI 8 ks := (gf0 (s + 3) (by omega)).trans fc32
  refine g_aastore (q := 53) (by show _ < s + 7; omega) fk35 (Or.inl ⟨rfl, rfl⟩) (by show _ < s + 7; omega) u0 (by omega) (by omega) (by decide) dX6_init_52 rfl ?_
  refine hp_in (fun hh38 ehh38 => ?_)
  have fc39 : hh38 s = cO 5 [.ref (s + 1), .ref (s + 2), .int (iI (0)), .int (iI (0))] := by rw [ehh38, ueh_n (by omega)]; exact fk34
  have fc40 : hh38 (s + 1) = cR 4 4 (uo (fun _ => none) 0 (some (s + 4))) := by rw [ehh38]; exact ueh_s
  have fc41 : hh38 (s + 2) = cO 0 [.ref (s + 2 + 1), .int (iI (0)), .int (iI (4))] := by rw [ehh38, ueh_n (by omega)]; exact fk36
  have fc42 : hh38 (s + 3) = cI 8 ks := by rw [ehh38, ueh_n (by omega)]; exact fk37
  have fc43 : hh38 (s + 4) = cO 4 [.ref (s + 4 + 1), .int (iI (0)), .ref (s + 4 + 2), .int (iI (0))] := by rw [ehh38, ueh_n (by omega)]; exact u0
  have fc44 : hh38 (s + 4 + 1) = cI 64 ds0 := by rw [ehh38, ueh_n (by omega)]; exact v0
  have fc45 : hh38 (s + 4 + 2) = cI 384 fa0 := by rw [ehh38, ueh_n (by omega)]; exact x0
  refine g_iinc (q := 56) (al2 := [some (.ref (s)), some (.int (iI (0 + 1)))]) rfl (by decide) rfl rfl dX6_init_53 rfl ?_
  refine g_goto (q := 35) dX6_init_56 rfl ?_
  refine g_iload_n (q := 36) rfl rfl dX6_init_35 rfl ?_
  refine g_iconst (q := 37) dX6_init_36 rfl ?_
  refine g_icmp_ge (t := 59) (q := 40) ⟨by omega, by omega⟩ ⟨by omega, by omega⟩ dX6_init_37 rfl rfl (fun c9 => by omega) (fun _ => ?_)
  refine g_aload_n (q := 41) rfl rfl dX6_init_40 rfl ?_
  refine g_get (q := 44) fX6_11r (by show _ < s + 7; omega) fc39 rfl dX6_init_41 rfl ?_
  refine g_iload_n (q := 45) rfl rfl dX6_init_44 rfl ?_
  refine g_new (q := 48) nwX6_9 rfl (Nat.le_of_ble_eq_true rfl) (Nat.le_of_ble_eq_true rfl) dX6_init_45 rfl ?_
  show G l noX mX6_init 2 15 1823 (nP (s + 16) (fun h' => SA h' s S0 ∧ ∀ j, j < s → h' j = h j)) 7 471 48 [some (.ref (s)), some (.int (iI (0 + 1)))] [.ref (s + 7), .int (iI (0 + 1)), .ref (s + 1)] (s + 8, true) (ueh hh38 (s + 7) (cO 4 [.null, .int (iI (0)), .null, .int (iI (0))]))
  refine hp_in (fun hh46 ehh46 => ?_)
  have fc47 : hh46 s = cO 5 [.ref (s + 1), .ref (s + 2), .int (iI (0)), .int (iI (0))] := by rw [ehh46, ueh_n (by omega)]; exact fc39
  have fc48 : hh46 (s + 1) = cR 4 4 (uo (fun _ => none) 0 (some (s + 4))) := by rw [ehh46, ueh_n (by omega)]; exact fc40
  have fc49 : hh46 (s + 2) = cO 0 [.ref (s + 2 + 1), .int (iI (0)), .int (iI (4))] := by rw [ehh46, ueh_n (by omega)]; exact fc41
  have fc50 : hh46 (s + 3) = cI 8 ks := by rw [ehh46, ueh_n (by omega)]; exact fc42
  have fc51 : hh46 (s + 4) = cO 4 [.ref (s + 4 + 1), .int (iI (0)), .ref (s + 4 + 2), .int (iI (0))] := by rw [ehh46, ueh_n (by omega)]; exact fc43
  have fc52 : hh46 (s + 4 + 1) = cI 64 ds0 := by rw [ehh46, ueh_n (by omega)]; exact fc44
  have fc53 : hh46 (s + 4 + 2) = cI 384 fa0 := by rw [ehh46, ueh_n (by omega)]; exact fc45
  have fc54 : hh46 (s + 7) = cO 4 [.null, .int (iI (0)), .null, .int (iI (0))] := by rw [ehh46]; exact ueh_s
  refine g_dup (q := 49) rfl dX6_init_48 rfl ?_
  refine g_INv (q := 52) (d' := 1) (mc' := 2) (ms' := 448) (i := s + 7) (av := []) (st := [.ref (s + 7), .int (iI (0 + 1)), .ref (s + 1)]) (M := s + 10) knX6_31 (t_X4_init l hh46 (s + 7) fc54) rfl rfl rfl (Nat.le_of_ble_eq_true rfl) ⟨(Nat.le_of_ble_eq_true rfl), (Nat.le_of_ble_eq_true rfl)⟩ ⟨(Nat.le_of_ble_eq_true rfl), (Nat.le_of_ble_eq_true rfl)⟩ rfl dX6_init_49 rfl (fun g1 gp1 => ?_)
  show G l noX mX6_init 2 15 1823 (nP (s + 16) (fun h' => SA h' s S0 ∧ ∀ j, j < s → h' j = h j)) 9 919 52 [some (.ref (s)), some (.int (iI (0 + 1)))] [.ref (s + 7), .int (iI (0 + 1)), .ref (s + 1)] (s + 10, true) g1
  obtain ⟨⟨ds1, fa1, u1, v1, x1⟩, gf1⟩ := gp1
  have fr_1 : ∀ j, j < s → g1 j = h j := fun j hj => by rw [gf1 j (by omega), ehh46, ueh_n (by omega), ehh38, ueh_n (by omega)]; exact fr_0 j hj
  have fk55 : g1 s = cO 5 [.ref (s + 1), .ref (s + 2), .int (iI (0)), .int (iI (0))] := (gf1 s (by omega)).trans fc47
  have fk56 : g1 (s + 1) = cR 4 4 (uo (fun _ => none) 0 (some (s + 4))) := (gf1 (s + 1) (by omega)).trans fc48
  have fk57 : g1 (s + 2) = cO 0 [.ref (s + 2 + 1), .int (iI (0)), .int (iI (4))] := (gf1 (s + 2) (by omega)).trans fc49
  have fk58 : g1 (s + 3) = cI 8 ks := (gf1 (s + 3) (by omega)).trans fc50
  have fk59 : g1 (s + 4) = cO 4 [.ref (s + 4 + 1), .int (iI (0)), .ref (s + 4 + 2), .int (iI (0))] := (gf1 (s + 4) (by omega)).trans fc51
  have fk60 : g1 (s + 4 + 1) = cI 64 ds0 := (gf1 (s + 4 + 1) (by omega)).trans fc52
  have fk61 : g1 (s + 4 + 2) = cI 384 fa0 := (gf1 (s + 4 + 2) (by omega)).trans fc53
  refine g_aastore (q := 53) (by show _ < s + 10; omega) fk56 (Or.inl ⟨rfl, rfl⟩) (by show _ < s + 10; omega) u1 (by omega) (by omega) (by decide) dX6_init_52 rfl ?_
  refine hp_in (fun hh62 ehh62 => ?_)
  have fc63 : hh62 s = cO 5 [.ref (s + 1), .ref (s + 2), .int (iI (0)), .int (iI (0))] := by rw [ehh62, ueh_n (by omega)]; exact fk55
  have fc64 : hh62 (s + 1) = cR 4 4 (uo (uo (fun _ => none) 0 (some (s + 4))) (0 + 1) (some (s + 7))) := by rw [ehh62]; exact ueh_s
  have fc65 : hh62 (s + 2) = cO 0 [.ref (s + 2 + 1), .int (iI (0)), .int (iI (4))] := by rw [ehh62, ueh_n (by omega)]; exact fk57
  have fc66 : hh62 (s + 3) = cI 8 ks := by rw [ehh62, ueh_n (by omega)]; exact fk58
  have fc67 : hh62 (s + 4) = cO 4 [.ref (s + 4 + 1), .int (iI (0)), .ref (s + 4 + 2), .int (iI (0))] := by rw [ehh62, ueh_n (by omega)]; exact fk59
  have fc68 : hh62 (s + 4 + 1) = cI 64 ds0 := by rw [ehh62, ueh_n (by omega)]; exact fk60
  have fc69 : hh62 (s + 4 + 2) = cI 384 fa0 := by rw [ehh62, ueh_n (by omega)]; exact fk61
  have fc70 : hh62 (s + 7) = cO 4 [.ref (s + 7 + 1), .int (iI (0)), .ref (s + 7 + 2), .int (iI (0))] := by rw [ehh62, ueh_n (by omega)]; exact u1
  have fc71 : hh62 (s + 7 + 1) = cI 64 ds1 := by rw [ehh62, ueh_n (by omega)]; exact v1
  have fc72 : hh62 (s + 7 + 2) = cI 384 fa1 := by rw [ehh62, ueh_n (by omega)]; exact x1
  refine g_iinc (q := 56) (al2 := [some (.ref (s)), some (.int (iI ((0 + 1) + 1)))]) rfl (by decide) rfl rfl dX6_init_53 rfl ?_
  refine g_goto (q := 35) dX6_init_56 rfl ?_
  refine g_iload_n (q := 36) rfl rfl dX6_init_35 rfl ?_
  refine g_iconst (q := 37) dX6_init_36 rfl ?_
  refine g_icmp_ge (t := 59) (q := 40) ⟨by omega, by omega⟩ ⟨by omega, by omega⟩ dX6_init_37 rfl rfl (fun c9 => by omega) (fun _ => ?_)
  refine g_aload_n (q := 41) rfl rfl dX6_init_40 rfl ?_
  refine g_get (q := 44) fX6_11r (by show _ < s + 10; omega) fc63 rfl dX6_init_41 rfl ?_
  refine g_iload_n (q := 45) rfl rfl dX6_init_44 rfl ?_
  refine g_new (q := 48) nwX6_9 rfl (Nat.le_of_ble_eq_true rfl) (Nat.le_of_ble_eq_true rfl) dX6_init_45 rfl ?_
  show G l noX mX6_init 2 15 1823 (nP (s + 16) (fun h' => SA h' s S0 ∧ ∀ j, j < s → h' j = h j)) 10 923 48 [some (.ref (s)), some (.int (iI ((0 + 1) + 1)))] [.ref (s + 10), .int (iI ((0 + 1) + 1)), .ref (s + 1)] (s + 11, true) (ueh hh62 (s + 10) (cO 4 [.null, .int (iI (0)), .null, .int (iI (0))]))
  refine hp_in (fun hh73 ehh73 => ?_)
  have fc74 : hh73 s = cO 5 [.ref (s + 1), .ref (s + 2), .int (iI (0)), .int (iI (0))] := by rw [ehh73, ueh_n (by omega)]; exact fc63
  have fc75 : hh73 (s + 1) = cR 4 4 (uo (uo (fun _ => none) 0 (some (s + 4))) (0 + 1) (some (s + 7))) := by rw [ehh73, ueh_n (by omega)]; exact fc64
  have fc76 : hh73 (s + 2) = cO 0 [.ref (s + 2 + 1), .int (iI (0)), .int (iI (4))] := by rw [ehh73, ueh_n (by omega)]; exact fc65
  have fc77 : hh73 (s + 3) = cI 8 ks := by rw [ehh73, ueh_n (by omega)]; exact fc66
  have fc78 : hh73 (s + 4) = cO 4 [.ref (s + 4 + 1), .int (iI (0)), .ref (s + 4 + 2), .int (iI (0))] := by rw [ehh73, ueh_n (by omega)]; exact fc67
  have fc79 : hh73 (s + 4 + 1) = cI 64 ds0 := by rw [ehh73, ueh_n (by omega)]; exact fc68
  have fc80 : hh73 (s + 4 + 2) = cI 384 fa0 := by rw [ehh73, ueh_n (by omega)]; exact fc69
  have fc81 : hh73 (s + 7) = cO 4 [.ref (s + 7 + 1), .int (iI (0)), .ref (s + 7 + 2), .int (iI (0))] := by rw [ehh73, ueh_n (by omega)]; exact fc70
  have fc82 : hh73 (s + 7 + 1) = cI 64 ds1 := by rw [ehh73, ueh_n (by omega)]; exact fc71
  have fc83 : hh73 (s + 7 + 2) = cI 384 fa1 := by rw [ehh73, ueh_n (by omega)]; exact fc72
  have fc84 : hh73 (s + 10) = cO 4 [.null, .int (iI (0)), .null, .int (iI (0))] := by rw [ehh73]; exact ueh_s
  refine g_dup (q := 49) rfl dX6_init_48 rfl ?_
  refine g_INv (q := 52) (d' := 1) (mc' := 2) (ms' := 448) (i := s + 10) (av := []) (st := [.ref (s + 10), .int (iI ((0 + 1) + 1)), .ref (s + 1)]) (M := s + 13) knX6_31 (t_X4_init l hh73 (s + 10) fc84) rfl rfl rfl (Nat.le_of_ble_eq_true rfl) ⟨(Nat.le_of_ble_eq_true rfl), (Nat.le_of_ble_eq_true rfl)⟩ ⟨(Nat.le_of_ble_eq_true rfl), (Nat.le_of_ble_eq_true rfl)⟩ rfl dX6_init_49 rfl (fun g2 gp2 => ?_)
  show G l noX mX6_init 2 15 1823 (nP (s + 16) (fun h' => SA h' s S0 ∧ ∀ j, j < s → h' j = h j)) 12 1371 52 [some (.ref (s)), some (.int (iI ((0 + 1) + 1)))] [.ref (s + 10), .int (iI ((0 + 1) + 1)), .ref (s + 1)] (s + 13, true) g2
  obtain ⟨⟨ds2, fa2, u2, v2, x2⟩, gf2⟩ := gp2
  have fr_2 : ∀ j, j < s → g2 j = h j := fun j hj => by rw [gf2 j (by omega), ehh73, ueh_n (by omega), ehh62, ueh_n (by omega)]; exact fr_1 j hj
  have fk85 : g2 s = cO 5 [.ref (s + 1), .ref (s + 2), .int (iI (0)), .int (iI (0))] := (gf2 s (by omega)).trans fc74
  have fk86 : g2 (s + 1) = cR 4 4 (uo (uo (fun _ => none) 0 (some (s + 4))) (0 + 1) (some (s + 7))) := (gf2 (s + 1) (by omega)).trans fc75
  have fk87 : g2 (s + 2) = cO 0 [.ref (s + 2 + 1), .int (iI (0)), .int (iI (4))] := (gf2 (s + 2) (by omega)).trans fc76
  have fk88 : g2 (s + 3) = cI 8 ks := (gf2 (s + 3) (by omega)).trans fc77
  have fk89 : g2 (s + 4) = cO 4 [.ref (s + 4 + 1), .int (iI (0)), .ref (s + 4 + 2), .int (iI (0))] := (gf2 (s + 4) (by omega)).trans fc78
  have fk90 : g2 (s + 4 + 1) = cI 64 ds0 := (gf2 (s + 4 + 1) (by omega)).trans fc79
  have fk91 : g2 (s + 4 + 2) = cI 384 fa0 := (gf2 (s + 4 + 2) (by omega)).trans fc80
  have fk92 : g2 (s + 7) = cO 4 [.ref (s + 7 + 1), .int (iI (0)), .ref (s + 7 + 2), .int (iI (0))] := (gf2 (s + 7) (by omega)).trans fc81
  have fk93 : g2 (s + 7 + 1) = cI 64 ds1 := (gf2 (s + 7 + 1) (by omega)).trans fc82
  have fk94 : g2 (s + 7 + 2) = cI 384 fa1 := (gf2 (s + 7 + 2) (by omega)).trans fc83
  refine g_aastore (q := 53) (by show _ < s + 13; omega) fk86 (Or.inl ⟨rfl, rfl⟩) (by show _ < s + 13; omega) u2 (by omega) (by omega) (by decide) dX6_init_52 rfl ?_
  refine hp_in (fun hh95 ehh95 => ?_)
  have fc96 : hh95 s = cO 5 [.ref (s + 1), .ref (s + 2), .int (iI (0)), .int (iI (0))] := by rw [ehh95, ueh_n (by omega)]; exact fk85
  have fc97 : hh95 (s + 1) = cR 4 4 (uo (uo (uo (fun _ => none) 0 (some (s + 4))) (0 + 1) (some (s + 7))) ((0 + 1) + 1) (some (s + 10))) := by rw [ehh95]; exact ueh_s
  have fc98 : hh95 (s + 2) = cO 0 [.ref (s + 2 + 1), .int (iI (0)), .int (iI (4))] := by rw [ehh95, ueh_n (by omega)]; exact fk87
  have fc99 : hh95 (s + 3) = cI 8 ks := by rw [ehh95, ueh_n (by omega)]; exact fk88
  have fc100 : hh95 (s + 4) = cO 4 [.ref (s + 4 + 1), .int (iI (0)), .ref (s + 4 + 2), .int (iI (0))] := by rw [ehh95, ueh_n (by omega)]; exact fk89
  have fc101 : hh95 (s + 4 + 1) = cI 64 ds0 := by rw [ehh95, ueh_n (by omega)]; exact fk90
  have fc102 : hh95 (s + 4 + 2) = cI 384 fa0 := by rw [ehh95, ueh_n (by omega)]; exact fk91
  have fc103 : hh95 (s + 7) = cO 4 [.ref (s + 7 + 1), .int (iI (0)), .ref (s + 7 + 2), .int (iI (0))] := by rw [ehh95, ueh_n (by omega)]; exact fk92
  have fc104 : hh95 (s + 7 + 1) = cI 64 ds1 := by rw [ehh95, ueh_n (by omega)]; exact fk93
  have fc105 : hh95 (s + 7 + 2) = cI 384 fa1 := by rw [ehh95, ueh_n (by omega)]; exact fk94
  have fc106 : hh95 (s + 10) = cO 4 [.ref (s + 10 + 1), .int (iI (0)), .ref (s + 10 + 2), .int (iI (0))] := by rw [ehh95, ueh_n (by omega)]; exact u2
  have fc107 : hh95 (s + 10 + 1) = cI 64 ds2 := by rw [ehh95, ueh_n (by omega)]; exact v2
  have fc108 : hh95 (s + 10 + 2) = cI 384 fa2 := by rw [ehh95, ueh_n (by omega)]; exact x2
  refine g_iinc (q := 56) (al2 := [some (.ref (s)), some (.int (iI (((0 + 1) + 1) + 1)))]) rfl (by decide) rfl rfl dX6_init_53 rfl ?_
  refine g_goto (q := 35) dX6_init_56 rfl ?_
  refine g_iload_n (q := 36) rfl rfl dX6_init_35 rfl ?_
  refine g_iconst (q := 37) dX6_init_36 rfl ?_
  refine g_icmp_ge (t := 59) (q := 40) ⟨by omega, by omega⟩ ⟨by omega, by omega⟩ dX6_init_37 rfl rfl (fun c9 => by omega) (fun _ => ?_)
  refine g_aload_n (q := 41) rfl rfl dX6_init_40 rfl ?_
  refine g_get (q := 44) fX6_11r (by show _ < s + 13; omega) fc96 rfl dX6_init_41 rfl ?_
  refine g_iload_n (q := 45) rfl rfl dX6_init_44 rfl ?_
  refine g_new (q := 48) nwX6_9 rfl (Nat.le_of_ble_eq_true rfl) (Nat.le_of_ble_eq_true rfl) dX6_init_45 rfl ?_
  show G l noX mX6_init 2 15 1823 (nP (s + 16) (fun h' => SA h' s S0 ∧ ∀ j, j < s → h' j = h j)) 13 1375 48 [some (.ref (s)), some (.int (iI (((0 + 1) + 1) + 1)))] [.ref (s + 13), .int (iI (((0 + 1) + 1) + 1)), .ref (s + 1)] (s + 14, true) (ueh hh95 (s + 13) (cO 4 [.null, .int (iI (0)), .null, .int (iI (0))]))
  refine hp_in (fun hh109 ehh109 => ?_)
  have fc110 : hh109 s = cO 5 [.ref (s + 1), .ref (s + 2), .int (iI (0)), .int (iI (0))] := by rw [ehh109, ueh_n (by omega)]; exact fc96
  have fc111 : hh109 (s + 1) = cR 4 4 (uo (uo (uo (fun _ => none) 0 (some (s + 4))) (0 + 1) (some (s + 7))) ((0 + 1) + 1) (some (s + 10))) := by rw [ehh109, ueh_n (by omega)]; exact fc97
  have fc112 : hh109 (s + 2) = cO 0 [.ref (s + 2 + 1), .int (iI (0)), .int (iI (4))] := by rw [ehh109, ueh_n (by omega)]; exact fc98
  have fc113 : hh109 (s + 3) = cI 8 ks := by rw [ehh109, ueh_n (by omega)]; exact fc99
  have fc114 : hh109 (s + 4) = cO 4 [.ref (s + 4 + 1), .int (iI (0)), .ref (s + 4 + 2), .int (iI (0))] := by rw [ehh109, ueh_n (by omega)]; exact fc100
  have fc115 : hh109 (s + 4 + 1) = cI 64 ds0 := by rw [ehh109, ueh_n (by omega)]; exact fc101
  have fc116 : hh109 (s + 4 + 2) = cI 384 fa0 := by rw [ehh109, ueh_n (by omega)]; exact fc102
  have fc117 : hh109 (s + 7) = cO 4 [.ref (s + 7 + 1), .int (iI (0)), .ref (s + 7 + 2), .int (iI (0))] := by rw [ehh109, ueh_n (by omega)]; exact fc103
  have fc118 : hh109 (s + 7 + 1) = cI 64 ds1 := by rw [ehh109, ueh_n (by omega)]; exact fc104
  have fc119 : hh109 (s + 7 + 2) = cI 384 fa1 := by rw [ehh109, ueh_n (by omega)]; exact fc105
  have fc120 : hh109 (s + 10) = cO 4 [.ref (s + 10 + 1), .int (iI (0)), .ref (s + 10 + 2), .int (iI (0))] := by rw [ehh109, ueh_n (by omega)]; exact fc106
  have fc121 : hh109 (s + 10 + 1) = cI 64 ds2 := by rw [ehh109, ueh_n (by omega)]; exact fc107
  have fc122 : hh109 (s + 10 + 2) = cI 384 fa2 := by rw [ehh109, ueh_n (by omega)]; exact fc108
  have fc123 : hh109 (s + 13) = cO 4 [.null, .int (iI (0)), .null, .int (iI (0))] := by rw [ehh109]; exact ueh_s
  refine g_dup (q := 49) rfl dX6_init_48 rfl ?_
  refine g_INv (q := 52) (d' := 1) (mc' := 2) (ms' := 448) (i := s + 13) (av := []) (st := [.ref (s + 13), .int (iI (((0 + 1) + 1) + 1)), .ref (s + 1)]) (M := s + 16) knX6_31 (t_X4_init l hh109 (s + 13) fc123) rfl rfl rfl (Nat.le_of_ble_eq_true rfl) ⟨(Nat.le_of_ble_eq_true rfl), (Nat.le_of_ble_eq_true rfl)⟩ ⟨(Nat.le_of_ble_eq_true rfl), (Nat.le_of_ble_eq_true rfl)⟩ rfl dX6_init_49 rfl (fun g3 gp3 => ?_)
  show G l noX mX6_init 2 15 1823 (nP (s + 16) (fun h' => SA h' s S0 ∧ ∀ j, j < s → h' j = h j)) 15 1823 52 [some (.ref (s)), some (.int (iI (((0 + 1) + 1) + 1)))] [.ref (s + 13), .int (iI (((0 + 1) + 1) + 1)), .ref (s + 1)] (s + 16, true) g3
  obtain ⟨⟨ds3, fa3, u3, v3, x3⟩, gf3⟩ := gp3
  have fr_3 : ∀ j, j < s → g3 j = h j := fun j hj => by rw [gf3 j (by omega), ehh109, ueh_n (by omega), ehh95, ueh_n (by omega)]; exact fr_2 j hj
  have fk124 : g3 s = cO 5 [.ref (s + 1), .ref (s + 2), .int (iI (0)), .int (iI (0))] := (gf3 s (by omega)).trans fc110
  have fk125 : g3 (s + 1) = cR 4 4 (uo (uo (uo (fun _ => none) 0 (some (s + 4))) (0 + 1) (some (s + 7))) ((0 + 1) + 1) (some (s + 10))) := (gf3 (s + 1) (by omega)).trans fc111
  have fk126 : g3 (s + 2) = cO 0 [.ref (s + 2 + 1), .int (iI (0)), .int (iI (4))] := (gf3 (s + 2) (by omega)).trans fc112
  have fk127 : g3 (s + 3) = cI 8 ks := (gf3 (s + 3) (by omega)).trans fc113
  have fk128 : g3 (s + 4) = cO 4 [.ref (s + 4 + 1), .int (iI (0)), .ref (s + 4 + 2), .int (iI (0))] := (gf3 (s + 4) (by omega)).trans fc114
  have fk129 : g3 (s + 4 + 1) = cI 64 ds0 := (gf3 (s + 4 + 1) (by omega)).trans fc115
  have fk130 : g3 (s + 4 + 2) = cI 384 fa0 := (gf3 (s + 4 + 2) (by omega)).trans fc116
  have fk131 : g3 (s + 7) = cO 4 [.ref (s + 7 + 1), .int (iI (0)), .ref (s + 7 + 2), .int (iI (0))] := (gf3 (s + 7) (by omega)).trans fc117
  have fk132 : g3 (s + 7 + 1) = cI 64 ds1 := (gf3 (s + 7 + 1) (by omega)).trans fc118
  have fk133 : g3 (s + 7 + 2) = cI 384 fa1 := (gf3 (s + 7 + 2) (by omega)).trans fc119
  have fk134 : g3 (s + 10) = cO 4 [.ref (s + 10 + 1), .int (iI (0)), .ref (s + 10 + 2), .int (iI (0))] := (gf3 (s + 10) (by omega)).trans fc120
  have fk135 : g3 (s + 10 + 1) = cI 64 ds2 := (gf3 (s + 10 + 1) (by omega)).trans fc121
  have fk136 : g3 (s + 10 + 2) = cI 384 fa2 := (gf3 (s + 10 + 2) (by omega)).trans fc122
  refine g_aastore (q := 53) (by show _ < s + 16; omega) fk125 (Or.inl ⟨rfl, rfl⟩) (by show _ < s + 16; omega) u3 (by omega) (by omega) (by decide) dX6_init_52 rfl ?_
  refine hp_in (fun hh137 ehh137 => ?_)
  have fc138 : hh137 s = cO 5 [.ref (s + 1), .ref (s + 2), .int (iI (0)), .int (iI (0))] := by rw [ehh137, ueh_n (by omega)]; exact fk124
  have fc139 : hh137 (s + 1) = cR 4 4 (uo (uo (uo (uo (fun _ => none) 0 (some (s + 4))) (0 + 1) (some (s + 7))) ((0 + 1) + 1) (some (s + 10))) (((0 + 1) + 1) + 1) (some (s + 13))) := by rw [ehh137]; exact ueh_s
  have fc140 : hh137 (s + 2) = cO 0 [.ref (s + 2 + 1), .int (iI (0)), .int (iI (4))] := by rw [ehh137, ueh_n (by omega)]; exact fk126
  have fc141 : hh137 (s + 3) = cI 8 ks := by rw [ehh137, ueh_n (by omega)]; exact fk127
  have fc142 : hh137 (s + 4) = cO 4 [.ref (s + 4 + 1), .int (iI (0)), .ref (s + 4 + 2), .int (iI (0))] := by rw [ehh137, ueh_n (by omega)]; exact fk128
  have fc143 : hh137 (s + 4 + 1) = cI 64 ds0 := by rw [ehh137, ueh_n (by omega)]; exact fk129
  have fc144 : hh137 (s + 4 + 2) = cI 384 fa0 := by rw [ehh137, ueh_n (by omega)]; exact fk130
  have fc145 : hh137 (s + 7) = cO 4 [.ref (s + 7 + 1), .int (iI (0)), .ref (s + 7 + 2), .int (iI (0))] := by rw [ehh137, ueh_n (by omega)]; exact fk131
  have fc146 : hh137 (s + 7 + 1) = cI 64 ds1 := by rw [ehh137, ueh_n (by omega)]; exact fk132
  have fc147 : hh137 (s + 7 + 2) = cI 384 fa1 := by rw [ehh137, ueh_n (by omega)]; exact fk133
  have fc148 : hh137 (s + 10) = cO 4 [.ref (s + 10 + 1), .int (iI (0)), .ref (s + 10 + 2), .int (iI (0))] := by rw [ehh137, ueh_n (by omega)]; exact fk134
  have fc149 : hh137 (s + 10 + 1) = cI 64 ds2 := by rw [ehh137, ueh_n (by omega)]; exact fk135
  have fc150 : hh137 (s + 10 + 2) = cI 384 fa2 := by rw [ehh137, ueh_n (by omega)]; exact fk136
  have fc151 : hh137 (s + 13) = cO 4 [.ref (s + 13 + 1), .int (iI (0)), .ref (s + 13 + 2), .int (iI (0))] := by rw [ehh137, ueh_n (by omega)]; exact u3
  have fc152 : hh137 (s + 13 + 1) = cI 64 ds3 := by rw [ehh137, ueh_n (by omega)]; exact v3
  have fc153 : hh137 (s + 13 + 2) = cI 384 fa3 := by rw [ehh137, ueh_n (by omega)]; exact x3
  refine g_iinc (q := 56) (al2 := [some (.ref (s)), some (.int (iI ((((0 + 1) + 1) + 1) + 1)))]) rfl (by decide) rfl rfl dX6_init_53 rfl ?_
  refine g_goto (q := 35) dX6_init_56 rfl ?_
  refine g_iload_n (q := 36) rfl rfl dX6_init_35 rfl ?_
  refine g_iconst (q := 37) dX6_init_36 rfl ?_
  refine g_icmp_ge (t := 59) (q := 40) ⟨by omega, by omega⟩ ⟨by omega, by omega⟩ dX6_init_37 rfl rfl (fun _ => ?_) (fun c9 => by omega)
  have hla : ∀ i : Nat, i < 4 → LA hh137 (s + 4 + 3 * i) 0 (fun _ => 0) := by
    intro i hi
    match i, hi with
    | 0, _ => exact LA0 fc142 fc143 fc144 (by omega)
    | 1, _ => exact LA0 fc145 fc146 fc147 (by omega)
    | 2, _ => exact LA0 fc148 fc149 fc150 (by omega)
    | 3, _ => exact LA0 fc151 fc152 fc153 (by omega)
    | k + 4, hk => omega
  exact g_vreturn (fun _ => rfl) (Nat.le_of_ble_eq_true rfl) (Nat.le_of_ble_eq_true rfl) dX6_init_59 rfl (nP_in ⟨⟨fc138, fc139.trans (congrArg (cR 4 4) (lref_uo (s := s) rfl rfl rfl rfl)), hs9, CA0 fc140 fc141 (by omega), hla⟩, fun j hj => by rw [ehh137, ueh_n (by omega)]; exact fr_3 j hj⟩)
