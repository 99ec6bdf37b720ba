/-! ===== constructors of the history, of the class and of the reference ===== -/
set_option maxRecDepth 4000 in
theorem t_X2_init (l : Launch) (h : EHp) (g : Nat) (hg9 : g + 65 < 103) (ha : h g = cO 2 [.null, .int (iI 0), .int (iI 0)]) : CT l mX2_init 3 65 7312 [.ref (g)] (g + 1, true) h (nP (g + 66) (fun h' => HA h' g 0 [] ∧ ∀ j, j < g → h' j = h j)) := by
  refine CT.of (by decide) (Nat.le_of_ble_eq_true rfl) ?_
  refine g_al (al2 := [some (.ref (g)), none]) rfl ?_
  refine g_aload_n (q := 1) rfl rfl dX2_init_0 rfl ?_
  refine g_objInit (q := 4) oiX2_3 (Nat.le_of_ble_eq_true rfl) (Nat.le_of_ble_eq_true rfl) dX2_init_1 rfl ?_
  refine g_aload_n (q := 5) rfl rfl dX2_init_4 rfl ?_
  refine g_iconst (q := 6) dX2_init_5 rfl ?_
  refine g_anew_S (q := 9) (nn := 4) tw_102 rfl (by decide) (Nat.le_of_ble_eq_true rfl) (Nat.le_of_ble_eq_true rfl) dX2_init_6 rfl ?_
  show G l noX mX2_init 3 65 7312 (nP (g + 66) (fun h' => HA h' g 0 [] ∧ ∀ j, j < g → h' j = h j)) 1 4 9 [some (.ref (g)), none] [.ref (g + 1), .ref (g)] (g + 2, true) (ueh h (g + 1) (cR 5 4 (fun _ => none)))
  refine hp_in (fun hh1 ehh1 => ?_)
  have fc2 : hh1 g = cO 2 [.null, .int (iI (0)), .int (iI (0))] := by rw [ehh1, ueh_n (by omega)]; exact ha
  have fc3 : hh1 (g + 1) = cR 5 4 (fun _ => none) := by rw [ehh1]; exact ueh_s
  refine g_putF (q := 12) fX2_11 rfl (by show _ < g + 2; omega) fc2 (Nat.le_of_ble_eq_true rfl) (fun _ _ => rfl) (fun _ _ => rfl) dX2_init_9 rfl ?_
  refine hp_in (fun hh4 ehh4 => ?_)
  have fc5 : hh4 g = cO 2 [.ref (g + 1), .int (iI (0)), .int (iI (0))] := by rw [ehh4]; exact ueh_s
  have fc6 : hh4 (g + 1) = cR 5 4 (fun _ => none) := by rw [ehh4, ueh_n (by omega)]; exact fc3
  refine g_aload_n (q := 13) rfl rfl dX2_init_12 rfl ?_
  refine g_iconst (q := 14) dX2_init_13 rfl ?_
  refine g_put (q := 17) fX2_17 (by show _ < g + 2; omega) fc5 (Nat.le_of_ble_eq_true rfl) (fun _ _ => rfl) (fun _ _ => rfl) dX2_init_14 rfl ?_
  refine hp_in (fun hh7 ehh7 => ?_)
  have fc8 : hh7 g = cO 2 [.ref (g + 1), .int (iI (0)), .int (iI (0))] := by rw [ehh7]; exact ueh_s
  have fc9 : hh7 (g + 1) = cR 5 4 (fun _ => none) := by rw [ehh7, ueh_n (by omega)]; exact fc6
  refine g_aload_n (q := 18) rfl rfl dX2_init_17 rfl ?_
  refine g_iconst (q := 19) dX2_init_18 rfl ?_
  refine g_put (q := 22) fX2_21 (by show _ < g + 2; omega) fc8 (Nat.le_of_ble_eq_true rfl) (fun _ _ => rfl) (fun _ _ => rfl) dX2_init_19 rfl ?_
  refine hp_in (fun hh10 ehh10 => ?_)
  have fc11 : hh10 g = cO 2 [.ref (g + 1), .int (iI (0)), .int (iI (0))] := by rw [ehh10]; exact ueh_s
  have fc12 : hh10 (g + 1) = cR 5 4 (fun _ => none) := by rw [ehh10, ueh_n (by omega)]; exact fc9
  refine g_iconst (q := 23) dX2_init_22 rfl ?_
  refine g_istore_n (q := 24) (al2 := [some (.ref (g)), some (.int (iI (0)))]) rfl (by decide) rfl rfl dX2_init_23 rfl ?_
  refine g_iload_n (q := 25) rfl rfl dX2_init_24 rfl ?_
  refine g_iconst (q := 26) dX2_init_25 rfl ?_
  refine g_icmp_ge (t := 48) (q := 29) ⟨by omega, by omega⟩ ⟨by omega, by omega⟩ dX2_init_26 rfl rfl (fun c9 => by omega) (fun _ => ?_)
  refine g_aload_n (q := 30) rfl rfl dX2_init_29 rfl ?_
  refine g_get (q := 33) fX2_11r (by show _ < g + 2; omega) fc11 rfl dX2_init_30 rfl ?_
  refine g_iload_n (q := 34) rfl rfl dX2_init_33 rfl ?_
  refine g_new (q := 37) nwX2_9 rfl (Nat.le_of_ble_eq_true rfl) (Nat.le_of_ble_eq_true rfl) dX2_init_34 rfl ?_
  show G l noX mX2_init 3 65 7312 (nP (g + 66) (fun h' => HA h' g 0 [] ∧ ∀ j, j < g → h' j = h j)) 2 8 37 [some (.ref (g)), some (.int (iI (0)))] [.ref (g + 2), .int (iI (0)), .ref (g + 1)] (g + 3, true) (ueh hh10 (g + 2) (cO 5 [.null, .null, .int (iI (0)), .int (iI (0))]))
  refine hp_in (fun hh13 ehh13 => ?_)
  have fc14 : hh13 g = cO 2 [.ref (g + 1), .int (iI (0)), .int (iI (0))] := by rw [ehh13, ueh_n (by omega)]; exact fc11
  have fc15 : hh13 (g + 1) = cR 5 4 (fun _ => none) := by rw [ehh13, ueh_n (by omega)]; exact fc12
  have fc16 : hh13 (g + 2) = cO 5 [.null, .null, .int (iI (0)), .int (iI (0))] := by rw [ehh13]; exact ueh_s
  refine g_dup (q := 38) rfl dX2_init_37 rfl ?_
  refine g_Iv (q := 41) (d' := 2) (mc' := 15) (ms' := 1823) (i := g + 2) (av := []) (st := [.ref (g + 2), .int (iI (0)), .ref (g + 1)]) (M := g + 18) kiX2_24 (t_X6_init l hh13 (g + 2) (by omega) fc16) rfl rfl rfl (Nat.le_of_ble_eq_true rfl) ⟨(Nat.le_of_ble_eq_true rfl), (Nat.le_of_ble_eq_true rfl)⟩ ⟨(Nat.le_of_ble_eq_true rfl), (Nat.le_of_ble_eq_true rfl)⟩ rfl dX2_init_38 rfl (fun g0 gp0 => ?_)
  show G l noX mX2_init 3 65 7312 (nP (g + 66) (fun h' => HA h' g 0 [] ∧ ∀ j, j < g → h' j = h j)) 17 1831 41 [some (.ref (g)), some (.int (iI (0)))] [.ref (g + 2), .int (iI (0)), .ref (g + 1)] (g + 18, true) g0
  obtain ⟨sa0, gf0⟩ := gp0
  obtain ⟨u0, -⟩ := id sa0
  have fr_0 : ∀ j, j < g → g0 j = h j := fun j hj => by rw [gf0 j (by omega), ehh13, ueh_n (by omega), ehh10, ueh_n (by omega), ehh7, ueh_n (by omega), ehh4, ueh_n (by omega), ehh1, ueh_n (by omega)]
  have fk17 : g0 g = cO 2 [.ref (g + 1), .int (iI (0)), .int (iI (0))] := (gf0 g (by omega)).trans fc14
  have fk18 : g0 (g + 1) = cR 5 4 (fun _ => none) := (gf0 (g + 1) (by omega)).trans fc15
  refine g_aastore (q := 42) (by show _ < g + 18; omega) fk18 (Or.inr ⟨rfl, rfl⟩) (by show _ < g + 18; omega) u0 (by omega) (by omega) (by decide) dX2_init_41 rfl ?_
  refine hp_in (fun hh19 ehh19 => ?_)
  have fc20 : hh19 g = cO 2 [.ref (g + 1), .int (iI (0)), .int (iI (0))] := by rw [ehh19, ueh_n (by omega)]; exact fk17
  have fc21 : hh19 (g + 1) = cR 5 4 (uo (fun _ => none) 0 (some (g + 2))) := by rw [ehh19]; exact ueh_s
  have fc22 : hh19 (g + 2) = cO 5 [.ref (g + 2 + 1), .ref (g + 2 + 2), .int (iI (0)), .int (iI (0))] := by rw [ehh19, ueh_n (by omega)]; exact u0
  refine g_iinc (q := 45) (al2 := [some (.ref (g)), some (.int (iI (0 + 1)))]) rfl (by decide) rfl rfl dX2_init_42 rfl ?_
  refine g_goto (q := 24) dX2_init_45 rfl ?_
  refine g_iload_n (q := 25) rfl rfl dX2_init_24 rfl ?_
  refine g_iconst (q := 26) dX2_init_25 rfl ?_
  refine g_icmp_ge (t := 48) (q := 29) ⟨by omega, by omega⟩ ⟨by omega, by omega⟩ dX2_init_26 rfl rfl (fun c9 => by omega) (fun _ => ?_)
  refine g_aload_n (q := 30) rfl rfl dX2_init_29 rfl ?_
  refine g_get (q := 33) fX2_11r (by show _ < g + 18; omega) fc20 rfl dX2_init_30 rfl ?_
  refine g_iload_n (q := 34) rfl rfl dX2_init_33 rfl ?_
  refine g_new (q := 37) nwX2_9 rfl (Nat.le_of_ble_eq_true rfl) (Nat.le_of_ble_eq_true rfl) dX2_init_34 rfl ?_
  show G l noX mX2_init 3 65 7312 (nP (g + 66) (fun h' => HA h' g 0 [] ∧ ∀ j, j < g → h' j = h j)) 18 1835 37 [some (.ref (g)), some (.int (iI (0 + 1)))] [.ref (g + 18), .int (iI (0 + 1)), .ref (g + 1)] (g + 19, true) (ueh hh19 (g + 18) (cO 5 [.null, .null, .int (iI (0)), .int (iI (0))]))
  refine hp_in (fun hh23 ehh23 => ?_)
  have fc24 : hh23 g = cO 2 [.ref (g + 1), .int (iI (0)), .int (iI (0))] := by rw [ehh23, ueh_n (by omega)]; exact fc20
  have fc25 : hh23 (g + 1) = cR 5 4 (uo (fun _ => none) 0 (some (g + 2))) := by rw [ehh23, ueh_n (by omega)]; exact fc21
  have fc26 : hh23 (g + 18) = cO 5 [.null, .null, .int (iI (0)), .int (iI (0))] := by rw [ehh23]; exact ueh_s
  refine g_dup (q := 38) rfl dX2_init_37 rfl ?_
  refine g_Iv (q := 41) (d' := 2) (mc' := 15) (ms' := 1823) (i := g + 18) (av := []) (st := [.ref (g + 18), .int (iI (0 + 1)), .ref (g + 1)]) (M := g + 34) kiX2_24 (t_X6_init l hh23 (g + 18) (by omega) fc26) rfl rfl rfl (Nat.le_of_ble_eq_true rfl) ⟨(Nat.le_of_ble_eq_true rfl), (Nat.le_of_ble_eq_true rfl)⟩ ⟨(Nat.le_of_ble_eq_true rfl), (Nat.le_of_ble_eq_true rfl)⟩ rfl dX2_init_38 rfl (fun g1 gp1 => ?_)
  show G l noX mX2_init 3 65 7312 (nP (g + 66) (fun h' => HA h' g 0 [] ∧ ∀ j, j < g → h' j = h j)) 33 3658 41 [some (.ref (g)), some (.int (iI (0 + 1)))] [.ref (g + 18), .int (iI (0 + 1)), .ref (g + 1)] (g + 34, true) g1
  obtain ⟨sa1, gf1⟩ := gp1
  obtain ⟨u1, -⟩ := id sa1
  have fr_1 : ∀ j, j < g → g1 j = h j := fun j hj => by rw [gf1 j (by omega), ehh23, ueh_n (by omega), ehh19, ueh_n (by omega)]; exact fr_0 j hj
  have sb1_0 := sa0.moved (h' := g1) (fun j a b => by rw [gf1 j (by omega), ehh23, ueh_n (by omega), ehh19, ueh_n (by omega)])
  have fk27 : g1 g = cO 2 [.ref (g + 1), .int (iI (0)), .int (iI (0))] := (gf1 g (by omega)).trans fc24
  have fk28 : g1 (g + 1) = cR 5 4 (uo (fun _ => none) 0 (some (g + 2))) := (gf1 (g + 1) (by omega)).trans fc25
  refine g_aastore (q := 42) (by show _ < g + 34; omega) fk28 (Or.inr ⟨rfl, rfl⟩) (by show _ < g + 34; omega) u1 (by omega) (by omega) (by decide) dX2_init_41 rfl ?_
  refine hp_in (fun hh29 ehh29 => ?_)
  have fc30 : hh29 g = cO 2 [.ref (g + 1), .int (iI (0)), .int (iI (0))] := by rw [ehh29, ueh_n (by omega)]; exact fk27
  have fc31 : hh29 (g + 1) = cR 5 4 (uo (uo (fun _ => none) 0 (some (g + 2))) (0 + 1) (some (g + 18))) := by rw [ehh29]; exact ueh_s
  have fc32 : hh29 (g + 18) = cO 5 [.ref (g + 18 + 1), .ref (g + 18 + 2), .int (iI (0)), .int (iI (0))] := by rw [ehh29, ueh_n (by omega)]; exact u1
  refine g_iinc (q := 45) (al2 := [some (.ref (g)), some (.int (iI ((0 + 1) + 1)))]) rfl (by decide) rfl rfl dX2_init_42 rfl ?_
  refine g_goto (q := 24) dX2_init_45 rfl ?_
  refine g_iload_n (q := 25) rfl rfl dX2_init_24 rfl ?_
  refine g_iconst (q := 26) dX2_init_25 rfl ?_
  refine g_icmp_ge (t := 48) (q := 29) ⟨by omega, by omega⟩ ⟨by omega, by omega⟩ dX2_init_26 rfl rfl (fun c9 => by omega) (fun _ => ?_)
  refine g_aload_n (q := 30) rfl rfl dX2_init_29 rfl ?_
  refine g_get (q := 33) fX2_11r (by show _ < g + 34; omega) fc30 rfl dX2_init_30 rfl ?_
  refine g_iload_n (q := 34) rfl rfl dX2_init_33 rfl ?_
  refine g_new (q := 37) nwX2_9 rfl (Nat.le_of_ble_eq_true rfl) (Nat.le_of_ble_eq_true rfl) dX2_init_34 rfl ?_
  show G l noX mX2_init 3 65 7312 (nP (g + 66) (fun h' => HA h' g 0 [] ∧ ∀ j, j < g → h' j = h j)) 34 3662 37 [some (.ref (g)), some (.int (iI ((0 + 1) + 1)))] [.ref (g + 34), .int (iI ((0 + 1) + 1)), .ref (g + 1)] (g + 35, true) (ueh hh29 (g + 34) (cO 5 [.null, .null, .int (iI (0)), .int (iI (0))]))
  refine hp_in (fun hh33 ehh33 => ?_)
  have fc34 : hh33 g = cO 2 [.ref (g + 1), .int (iI (0)), .int (iI (0))] := by rw [ehh33, ueh_n (by omega)]; exact fc30
  have fc35 : hh33 (g + 1) = cR 5 4 (uo (uo (fun _ => none) 0 (some (g + 2))) (0 + 1) (some (g + 18))) := by rw [ehh33, ueh_n (by omega)]; exact fc31
  have fc36 : hh33 (g + 34) = cO 5 [.null, .null, .int (iI (0)), .int (iI (0))] := by rw [ehh33]; exact ueh_s
  refine g_dup (q := 38) rfl dX2_init_37 rfl ?_
  refine g_Iv (q := 41) (d' := 2) (mc' := 15) (ms' := 1823) (i := g + 34) (av := []) (st := [.ref (g + 34), .int (iI ((0 + 1) + 1)), .ref (g + 1)]) (M := g + 50) kiX2_24 (t_X6_init l hh33 (g + 34) (by omega) fc36) rfl rfl rfl (Nat.le_of_ble_eq_true rfl) ⟨(Nat.le_of_ble_eq_true rfl), (Nat.le_of_ble_eq_true rfl)⟩ ⟨(Nat.le_of_ble_eq_true rfl), (Nat.le_of_ble_eq_true rfl)⟩ rfl dX2_init_38 rfl (fun g2 gp2 => ?_)
  show G l noX mX2_init 3 65 7312 (nP (g + 66) (fun h' => HA h' g 0 [] ∧ ∀ j, j < g → h' j = h j)) 49 5485 41 [some (.ref (g)), some (.int (iI ((0 + 1) + 1)))] [.ref (g + 34), .int (iI ((0 + 1) + 1)), .ref (g + 1)] (g + 50, true) g2
  obtain ⟨sa2, gf2⟩ := gp2
  obtain ⟨u2, -⟩ := id sa2
  have fr_2 : ∀ j, j < g → g2 j = h j := fun j hj => by rw [gf2 j (by omega), ehh33, ueh_n (by omega), ehh29, ueh_n (by omega)]; exact fr_1 j hj
  have sb2_0 := sb1_0.moved (h' := g2) (fun j a b => by rw [gf2 j (by omega), ehh33, ueh_n (by omega), ehh29, ueh_n (by omega)])
  have sb2_1 := sa1.moved (h' := g2) (fun j a b => by rw [gf2 j (by omega), ehh33, ueh_n (by omega), ehh29, ueh_n (by omega)])
  have fk37 : g2 g = cO 2 [.ref (g + 1), .int (iI (0)), .int (iI (0))] := (gf2 g (by omega)).trans fc34
  have fk38 : g2 (g + 1) = cR 5 4 (uo (uo (fun _ => none) 0 (some (g + 2))) (0 + 1) (some (g + 18))) := (gf2 (g + 1) (by omega)).trans fc35
  refine g_aastore (q := 42) (by show _ < g + 50; omega) fk38 (Or.inr ⟨rfl, rfl⟩) (by show _ < g + 50; omega) u2 (by omega) (by omega) (by decide) dX2_init_41 rfl ?_
  refine hp_in (fun hh39 ehh39 => ?_)
  have fc40 : hh39 g = cO 2 [.ref (g + 1), .int (iI (0)), .int (iI (0))] := by rw [ehh39, ueh_n (by omega)]; exact fk37
  have fc41 : hh39 (g + 1) = cR 5 4 (uo (uo (uo (fun _ => none) 0 (some (g + 2))) (0 + 1) (some (g + 18))) ((0 + 1) + 1) (some (g + 34))) := by rw [ehh39]; exact ueh_s
  have fc42 : hh39 (g + 34) = cO 5 [.ref (g + 34 + 1), .ref (g + 34 + 2), .int (iI (0)), .int (iI (0))] := by rw [ehh39, ueh_n (by omega)]; exact u2
  refine g_iinc (q := 45) (al2 := [some (.ref (g)), some (.int (iI (((0 + 1) + 1) + 1)))]) rfl (by decide) rfl rfl dX2_init_42 rfl ?_
  refine g_goto (q := 24) dX2_init_45 rfl ?_
  refine g_iload_n (q := 25) rfl rfl dX2_init_24 rfl ?_
  refine g_iconst (q := 26) dX2_init_25 rfl ?_
  refine g_icmp_ge (t := 48) (q := 29) ⟨by omega, by omega⟩ ⟨by omega, by omega⟩ dX2_init_26 rfl rfl (fun c9 => by omega) (fun _ => ?_)
  refine g_aload_n (q := 30) rfl rfl dX2_init_29 rfl ?_
  refine g_get (q := 33) fX2_11r (by show _ < g + 50; omega) fc40 rfl dX2_init_30 rfl ?_
  refine g_iload_n (q := 34) rfl rfl dX2_init_33 rfl ?_
  refine g_new (q := 37) nwX2_9 rfl (Nat.le_of_ble_eq_true rfl) (Nat.le_of_ble_eq_true rfl) dX2_init_34 rfl ?_
  show G l noX mX2_init 3 65 7312 (nP (g + 66) (fun h' => HA h' g 0 [] ∧ ∀ j, j < g → h' j = h j)) 50 5489 37 [some (.ref (g)), some (.int (iI (((0 + 1) + 1) + 1)))] [.ref (g + 50), .int (iI (((0 + 1) + 1) + 1)), .ref (g + 1)] (g + 51, true) (ueh hh39 (g + 50) (cO 5 [.null, .null, .int (iI (0)), .int (iI (0))]))
  refine hp_in (fun hh43 ehh43 => ?_)
  have fc44 : hh43 g = cO 2 [.ref (g + 1), .int (iI (0)), .int (iI (0))] := by rw [ehh43, ueh_n (by omega)]; exact fc40
  have fc45 : hh43 (g + 1) = cR 5 4 (uo (uo (uo (fun _ => none) 0 (some (g + 2))) (0 + 1) (some (g + 18))) ((0 + 1) + 1) (some (g + 34))) := by rw [ehh43, ueh_n (by omega)]; exact fc41
  have fc46 : hh43 (g + 50) = cO 5 [.null, .null, .int (iI (0)), .int (iI (0))] := by rw [ehh43]; exact ueh_s
  refine g_dup (q := 38) rfl dX2_init_37 rfl ?_
  refine g_Iv (q := 41) (d' := 2) (mc' := 15) (ms' := 1823) (i := g + 50) (av := []) (st := [.ref (g + 50), .int (iI (((0 + 1) + 1) + 1)), .ref (g + 1)]) (M := g + 66) kiX2_24 (t_X6_init l hh43 (g + 50) (by omega) fc46) rfl rfl rfl (Nat.le_of_ble_eq_true rfl) ⟨(Nat.le_of_ble_eq_true rfl), (Nat.le_of_ble_eq_true rfl)⟩ ⟨(Nat.le_of_ble_eq_true rfl), (Nat.le_of_ble_eq_true rfl)⟩ rfl dX2_init_38 rfl (fun g3 gp3 => ?_)
  show G l noX mX2_init 3 65 7312 (nP (g + 66) (fun h' => HA h' g 0 [] ∧ ∀ j, j < g → h' j = h j)) 65 7312 41 [some (.ref (g)), some (.int (iI (((0 + 1) + 1) + 1)))] [.ref (g + 50), .int (iI (((0 + 1) + 1) + 1)), .ref (g + 1)] (g + 66, true) g3
  obtain ⟨sa3, gf3⟩ := gp3
  obtain ⟨u3, -⟩ := id sa3
  have fr_3 : ∀ j, j < g → g3 j = h j := fun j hj => by rw [gf3 j (by omega), ehh43, ueh_n (by omega), ehh39, ueh_n (by omega)]; exact fr_2 j hj
  have sb3_0 := sb2_0.moved (h' := g3) (fun j a b => by rw [gf3 j (by omega), ehh43, ueh_n (by omega), ehh39, ueh_n (by omega)])
  have sb3_1 := sb2_1.moved (h' := g3) (fun j a b => by rw [gf3 j (by omega), ehh43, ueh_n (by omega), ehh39, ueh_n (by omega)])
  have sb3_2 := sa2.moved (h' := g3) (fun j a b => by rw [gf3 j (by omega), ehh43, ueh_n (by omega), ehh39, ueh_n (by omega)])
  have fk47 : g3 g = cO 2 [.ref (g + 1), .int (iI (0)), .int (iI (0))] := (gf3 g (by omega)).trans fc44
  have fk48 : g3 (g + 1) = cR 5 4 (uo (uo (uo (fun _ => none) 0 (some (g + 2))) (0 + 1) (some (g + 18))) ((0 + 1) + 1) (some (g + 34))) := (gf3 (g + 1) (by omega)).trans fc45
  refine g_aastore (q := 42) (by show _ < g + 66; omega) fk48 (Or.inr ⟨rfl, rfl⟩) (by show _ < g + 66; omega) u3 (by omega) (by omega) (by decide) dX2_init_41 rfl ?_
  refine hp_in (fun hh49 ehh49 => ?_)
  have fc50 : hh49 g = cO 2 [.ref (g + 1), .int (iI (0)), .int (iI (0))] := by rw [ehh49, ueh_n (by omega)]; exact fk47
  have fc51 : hh49 (g + 1) = cR 5 4 (uo (uo (uo (uo (fun _ => none) 0 (some (g + 2))) (0 + 1) (some (g + 18))) ((0 + 1) + 1) (some (g + 34))) (((0 + 1) + 1) + 1) (some (g + 50))) := by rw [ehh49]; exact ueh_s
  have fc52 : hh49 (g + 50) = cO 5 [.ref (g + 50 + 1), .ref (g + 50 + 2), .int (iI (0)), .int (iI (0))] := by rw [ehh49, ueh_n (by omega)]; exact u3
  refine g_iinc (q := 45) (al2 := [some (.ref (g)), some (.int (iI ((((0 + 1) + 1) + 1) + 1)))]) rfl (by decide) rfl rfl dX2_init_42 rfl ?_
  refine g_goto (q := 24) dX2_init_45 rfl ?_
  refine g_iload_n (q := 25) rfl rfl dX2_init_24 rfl ?_
  refine g_iconst (q := 26) dX2_init_25 rfl ?_
  refine g_icmp_ge (t := 48) (q := 29) ⟨by omega, by omega⟩ ⟨by omega, by omega⟩ dX2_init_26 rfl rfl (fun _ => ?_) (fun c9 => by omega)
  have hsa : ∀ i : Nat, i < 4 → SA hh49 (g + 2 + 16 * i) S0 := by
    intro i hi
    match i, hi with
    | 0, _ => exact sb3_0.moved (fun j a b => by rw [ehh49, ueh_n (by omega)])
    | 1, _ => exact sb3_1.moved (fun j a b => by rw [ehh49, ueh_n (by omega)])
    | 2, _ => exact sb3_2.moved (fun j a b => by rw [ehh49, ueh_n (by omega)])
    | 3, _ => exact sa3.moved (fun j a b => by rw [ehh49, ueh_n (by omega)])
    | k + 4, hk => omega
  exact g_vreturn (fun _ => rfl) (Nat.le_of_ble_eq_true rfl) (Nat.le_of_ble_eq_true rfl) dX2_init_48 rfl (nP_in ⟨⟨fun _ => S0, fc50, fc51.trans (congrArg (cR 5 4) (sref_uo (g := g) rfl rfl rfl rfl)), by decide, by decide, hsa, fun j v hv => (by cases hv), hg9⟩, fun j hj => by rw [ehh49, ueh_n (by omega)]; exact fr_3 j hj⟩)
set_option maxRecDepth 4000 in
theorem t_X7_init (l : Launch) (h : EHp) (ha : h 0 = cO 6 [.null, .null, .null, .null, .null, .null]) : CT l mX7_init 4 89 9946 [.ref (0)] (1, true) h (nP 90 (fun h' => CRep h' S0 [])) := by
  refine CT.of (by decide) (Nat.le_of_ble_eq_true rfl) ?_
  refine g_al (al2 := [some (.ref (0))]) rfl ?_
  refine g_aload_n (q := 1) rfl rfl dX7_init_0 rfl ?_
  refine g_objInit (q := 4) oiX7_3 (Nat.le_of_ble_eq_true rfl) (Nat.le_of_ble_eq_true rfl) dX7_init_1 rfl ?_
  refine g_aload_n (q := 5) rfl rfl dX7_init_4 rfl ?_
  refine g_new (q := 8) nwX7_9 rfl (Nat.le_of_ble_eq_true rfl) (Nat.le_of_ble_eq_true rfl) dX7_init_5 rfl ?_
  show G l noX mX7_init 4 89 9946 (nP 90 (fun h' => CRep h' S0 [])) 1 4 8 [some (.ref (0))] [.ref (1), .ref (0)] (2, true) (ueh h (1) (cO 5 [.null, .null, .int (iI (0)), .int (iI (0))]))
  refine hp_in (fun hh1 ehh1 => ?_)
  have fc2 : hh1 0 = cO 6 [.null, .null, .null, .null, .null, .null] := by rw [ehh1, ueh_n (by decide)]; exact ha
  have fc3 : hh1 1 = cO 5 [.null, .null, .int (iI (0)), .int (iI (0))] := by rw [ehh1]; exact ueh_s
  refine g_dup (q := 9) rfl dX7_init_8 rfl ?_
  refine g_Iv (q := 12) (d' := 2) (mc' := 15) (ms' := 1823) (i := 1) (av := []) (st := [.ref (1), .ref (0)]) (M := 17) kiX7_11 (t_X6_init l hh1 1 (by omega) fc3) rfl rfl rfl (Nat.le_of_ble_eq_true rfl) ⟨(Nat.le_of_ble_eq_true rfl), (Nat.le_of_ble_eq_true rfl)⟩ ⟨(Nat.le_of_ble_eq_true rfl), (Nat.le_of_ble_eq_true rfl)⟩ rfl dX7_init_9 rfl (fun ga gap => ?_)
  show G l noX mX7_init 4 89 9946 (nP 90 (fun h' => CRep h' S0 [])) 16 1827 12 [some (.ref (0))] [.ref (1), .ref (0)] (17, true) ga
  obtain ⟨sa, gaf⟩ := gap
  have fk4 : ga 0 = cO 6 [.null, .null, .null, .null, .null, .null] := (gaf 0 (by omega)).trans fc2
  refine g_putF (q := 15) fX7_12 rfl (by show _ < 17; omega) fk4 (Nat.le_of_ble_eq_true rfl) (fun _ _ => rfl) (fun _ _ => rfl) dX7_init_12 rfl ?_
  refine hp_in (fun hh5 ehh5 => ?_)
  have fc6 : hh5 0 = cO 6 [.ref (1), .null, .null, .null, .null, .null] := by rw [ehh5]; exact ueh_s
  refine g_aload_n (q := 16) rfl rfl dX7_init_15 rfl ?_
  refine g_new (q := 19) nwX7_16 rfl (Nat.le_of_ble_eq_true rfl) (Nat.le_of_ble_eq_true rfl) dX7_init_16 rfl ?_
  show G l noX mX7_init 4 89 9946 (nP 90 (fun h' => CRep h' S0 [])) 17 1830 19 [some (.ref (0))] [.ref (17), .ref (0)] (18, true) (ueh hh5 (17) (cO 2 [.null, .int (iI (0)), .int (iI (0))]))
  refine hp_in (fun hh7 ehh7 => ?_)
  have fc8 : hh7 0 = cO 6 [.ref (1), .null, .null, .null, .null, .null] := by rw [ehh7, ueh_n (by decide)]; exact fc6
  have fc9 : hh7 17 = cO 2 [.null, .int (iI (0)), .int (iI (0))] := by rw [ehh7]; exact ueh_s
  refine g_dup (q := 20) rfl dX7_init_19 rfl ?_
  refine g_Iv (q := 23) (d' := 3) (mc' := 65) (ms' := 7312) (i := 17) (av := []) (st := [.ref (17), .ref (0)]) (M := 83) kiX7_18 (t_X2_init l hh7 17 (by omega) fc9) rfl rfl rfl (Nat.le_of_ble_eq_true rfl) ⟨(Nat.le_of_ble_eq_true rfl), (Nat.le_of_ble_eq_true rfl)⟩ ⟨(Nat.le_of_ble_eq_true rfl), (Nat.le_of_ble_eq_true rfl)⟩ rfl dX7_init_20 rfl (fun gb gbp => ?_)
  show G l noX mX7_init 4 89 9946 (nP 90 (fun h' => CRep h' S0 [])) 82 9142 23 [some (.ref (0))] [.ref (17), .ref (0)] (83, true) gb
  obtain ⟨hb, gbf⟩ := gbp
  have fk10 : gb 0 = cO 6 [.ref (1), .null, .null, .null, .null, .null] := (gbf 0 (by omega)).trans fc8
  have sa2 := sa.moved (h' := gb) (fun j a b => by rw [gbf j (by omega), ehh7, ueh_n (by omega), ehh5, ueh_n (by omega)])
  refine g_putF (q := 26) fX7_19 rfl (by show _ < 83; omega) fk10 (Nat.le_of_ble_eq_true rfl) (fun _ _ => rfl) (fun _ _ => rfl) dX7_init_23 rfl ?_
  refine hp_in (fun hh11 ehh11 => ?_)
  have fc12 : hh11 0 = cO 6 [.ref (1), .ref (17), .null, .null, .null, .null] := by rw [ehh11]; exact ueh_s
  refine g_aload_n (q := 27) rfl rfl dX7_init_26 rfl ?_
  refine g_new (q := 30) nwX7_23 rfl (Nat.le_of_ble_eq_true rfl) (Nat.le_of_ble_eq_true rfl) dX7_init_27 rfl ?_
  show G l noX mX7_init 4 89 9946 (nP 90 (fun h' => CRep h' S0 [])) 83 9144 30 [some (.ref (0))] [.ref (83), .ref (0)] (84, true) (ueh hh11 (83) (cO 3 [.null, .null]))
  refine hp_in (fun hh13 ehh13 => ?_)
  have fc14 : hh13 0 = cO 6 [.ref (1), .ref (17), .null, .null, .null, .null] := by rw [ehh13, ueh_n (by decide)]; exact fc12
  have fc15 : hh13 83 = cO 3 [.null, .null] := by rw [ehh13]; exact ueh_s
  refine g_dup (q := 31) rfl dX7_init_30 rfl ?_
  refine g_INv (q := 34) (d' := 1) (mc' := 2) (ms' := 130) (i := 83) (av := []) (st := [.ref (83), .ref (0)]) (M := 86) knX7_25 (t_X3_init l hh13 83 fc15) rfl rfl rfl (Nat.le_of_ble_eq_true rfl) ⟨(Nat.le_of_ble_eq_true rfl), (Nat.le_of_ble_eq_true rfl)⟩ ⟨(Nat.le_of_ble_eq_true rfl), (Nat.le_of_ble_eq_true rfl)⟩ rfl dX7_init_31 rfl (fun gc gcp => ?_)
  show G l noX mX7_init 4 89 9946 (nP 90 (fun h' => CRep h' S0 [])) 85 9274 34 [some (.ref (0))] [.ref (83), .ref (0)] (86, true) gc
  obtain ⟨⟨Ws, Es, p1, p2, p3⟩, gcf⟩ := gcp
  have fk16 : gc 0 = cO 6 [.ref (1), .ref (17), .null, .null, .null, .null] := (gcf 0 (by omega)).trans fc14
  have frc : ∀ j, 1 ≤ j → j < 83 → gc j = gb j := fun j a b => by rw [gcf j (by omega), ehh13, ueh_n (by omega), ehh11, ueh_n (by omega)]
  have sa3 := sa2.moved (h' := gc) (fun j a b => frc j (by omega) (by omega))
  have hb3 := hb.moved (h' := gc) (fun j a b => frc j (by omega) (by omega))
  refine g_putF (q := 37) fX7_26 rfl (by show _ < 86; omega) fk16 (Nat.le_of_ble_eq_true rfl) (fun _ _ => rfl) (fun _ _ => rfl) dX7_init_34 rfl ?_
  refine hp_in (fun hh17 ehh17 => ?_)
  have fc18 : hh17 0 = cO 6 [.ref (1), .ref (17), .ref (83), .null, .null, .null] := by rw [ehh17]; exact ueh_s
  have fc19 : hh17 83 = cO 3 [.ref (83 + 1), .ref (83 + 2)] := by rw [ehh17, ueh_n (by decide)]; exact p1
  have fc20 : hh17 84 = cI 65 Ws := by rw [ehh17, ueh_n (by decide)]; exact p2
  have fc21 : hh17 85 = cI 65 Es := by rw [ehh17, ueh_n (by decide)]; exact p3
  refine g_aload_n (q := 38) rfl rfl dX7_init_37 rfl ?_
  refine g_new (q := 41) nwX7_30 rfl (Nat.le_of_ble_eq_true rfl) (Nat.le_of_ble_eq_true rfl) dX7_init_38 rfl ?_
  show G l noX mX7_init 4 89 9946 (nP 90 (fun h' => CRep h' S0 [])) 86 9276 41 [some (.ref (0))] [.ref (86), .ref (0)] (87, true) (ueh hh17 (86) (cO 1 [.null, .int (iI (0))]))
  refine hp_in (fun hh22 ehh22 => ?_)
  have fc23 : hh22 0 = cO 6 [.ref (1), .ref (17), .ref (83), .null, .null, .null] := by rw [ehh22, ueh_n (by decide)]; exact fc18
  have fc24 : hh22 83 = cO 3 [.ref (83 + 1), .ref (83 + 2)] := by rw [ehh22, ueh_n (by decide)]; exact fc19
  have fc25 : hh22 84 = cI 65 Ws := by rw [ehh22, ueh_n (by decide)]; exact fc20
  have fc26 : hh22 85 = cI 65 Es := by rw [ehh22, ueh_n (by decide)]; exact fc21
  have fc27 : hh22 86 = cO 1 [.null, .int (iI (0))] := by rw [ehh22]; exact ueh_s
  refine g_dup (q := 42) rfl dX7_init_41 rfl ?_
  refine g_INv (q := 45) (d' := 1) (mc' := 1) (ms' := 538) (i := 86) (av := []) (st := [.ref (86), .ref (0)]) (M := 88) knX7_32 (t_X1_init l hh22 86 fc27) rfl rfl rfl (Nat.le_of_ble_eq_true rfl) ⟨(Nat.le_of_ble_eq_true rfl), (Nat.le_of_ble_eq_true rfl)⟩ ⟨(Nat.le_of_ble_eq_true rfl), (Nat.le_of_ble_eq_true rfl)⟩ rfl dX7_init_42 rfl (fun gd gdp => ?_)
  show G l noX mX7_init 4 89 9946 (nP 90 (fun h' => CRep h' S0 [])) 87 9814 45 [some (.ref (0))] [.ref (86), .ref (0)] (88, true) gd
  obtain ⟨⟨bs, q1, q2⟩, gdf⟩ := gdp
  have fk28 : gd 0 = cO 6 [.ref (1), .ref (17), .ref (83), .null, .null, .null] := (gdf 0 (by omega)).trans fc23
  have fk29 : gd 83 = cO 3 [.ref (83 + 1), .ref (83 + 2)] := (gdf 83 (by omega)).trans fc24
  have fk30 : gd 84 = cI 65 Ws := (gdf 84 (by omega)).trans fc25
  have fk31 : gd 85 = cI 65 Es := (gdf 85 (by omega)).trans fc26
  have frd : ∀ j, 1 ≤ j → j < 83 → gd j = gc j := fun j a b => by rw [gdf j (by omega), ehh22, ueh_n (by omega), ehh17, ueh_n (by omega)]
  refine g_putF (q := 48) fX7_33 rfl (by show _ < 88; omega) fk28 (Nat.le_of_ble_eq_true rfl) (fun _ _ => rfl) (fun _ _ => rfl) dX7_init_45 rfl ?_
  refine hp_in (fun hh32 ehh32 => ?_)
  have fc33 : hh32 0 = cO 6 [.ref (1), .ref (17), .ref (83), .ref (86), .null, .null] := by rw [ehh32]; exact ueh_s
  have fc34 : hh32 83 = cO 3 [.ref (83 + 1), .ref (83 + 2)] := by rw [ehh32, ueh_n (by decide)]; exact fk29
  have fc35 : hh32 84 = cI 65 Ws := by rw [ehh32, ueh_n (by decide)]; exact fk30
  have fc36 : hh32 85 = cI 65 Es := by rw [ehh32, ueh_n (by decide)]; exact fk31
  have fc37 : hh32 86 = cO 1 [.ref (86 + 1), .int (iI (0))] := by rw [ehh32, ueh_n (by decide)]; exact q1
  have fc38 : hh32 87 = cI 538 bs := by rw [ehh32, ueh_n (by decide)]; exact q2
  refine g_aload_n (q := 49) rfl rfl dX7_init_48 rfl ?_
  refine g_iconst (q := 50) dX7_init_49 rfl ?_
  refine g_newa_int (q := 52) (nn := 4) ak_int rfl (by decide) (Nat.le_of_ble_eq_true rfl) (Nat.le_of_ble_eq_true rfl) dX7_init_50 rfl ?_
  show G l noX mX7_init 4 89 9946 (nP 90 (fun h' => CRep h' S0 [])) 88 9818 52 [some (.ref (0))] [.ref (88), .ref (0)] (89, true) (ueh hh32 (88) (cI 4 (fun _ => 0)))
  refine hp_in (fun hh39 ehh39 => ?_)
  have fc40 : hh39 0 = cO 6 [.ref (1), .ref (17), .ref (83), .ref (86), .null, .null] := by rw [ehh39, ueh_n (by decide)]; exact fc33
  have fc41 : hh39 83 = cO 3 [.ref (83 + 1), .ref (83 + 2)] := by rw [ehh39, ueh_n (by decide)]; exact fc34
  have fc42 : hh39 84 = cI 65 Ws := by rw [ehh39, ueh_n (by decide)]; exact fc35
  have fc43 : hh39 85 = cI 65 Es := by rw [ehh39, ueh_n (by decide)]; exact fc36
  have fc44 : hh39 86 = cO 1 [.ref (86 + 1), .int (iI (0))] := by rw [ehh39, ueh_n (by decide)]; exact fc37
  have fc45 : hh39 87 = cI 538 bs := by rw [ehh39, ueh_n (by decide)]; exact fc38
  have fc46 : hh39 88 = cI 4 (fun _ => 0) := by rw [ehh39]; exact ueh_s
  refine g_putF (q := 55) fX7_37 rfl (by show _ < 89; omega) fc40 (Nat.le_of_ble_eq_true rfl) (fun _ _ => rfl) (fun _ _ => rfl) dX7_init_52 rfl ?_
  refine hp_in (fun hh47 ehh47 => ?_)
  have fc48 : hh47 0 = cO 6 [.ref (1), .ref (17), .ref (83), .ref (86), .ref (88), .null] := by rw [ehh47]; exact ueh_s
  have fc49 : hh47 83 = cO 3 [.ref (83 + 1), .ref (83 + 2)] := by rw [ehh47, ueh_n (by decide)]; exact fc41
  have fc50 : hh47 84 = cI 65 Ws := by rw [ehh47, ueh_n (by decide)]; exact fc42
  have fc51 : hh47 85 = cI 65 Es := by rw [ehh47, ueh_n (by decide)]; exact fc43
  have fc52 : hh47 86 = cO 1 [.ref (86 + 1), .int (iI (0))] := by rw [ehh47, ueh_n (by decide)]; exact fc44
  have fc53 : hh47 87 = cI 538 bs := by rw [ehh47, ueh_n (by decide)]; exact fc45
  have fc54 : hh47 88 = cI 4 (fun _ => 0) := by rw [ehh47, ueh_n (by decide)]; exact fc46
  refine g_aload_n (q := 56) rfl rfl dX7_init_55 rfl ?_
  refine g_sipush (q := 59) (by decide) dX7_init_56 rfl ?_
  refine g_newa_int (q := 61) (nn := 128) ak_int rfl (by decide) (Nat.le_of_ble_eq_true rfl) (Nat.le_of_ble_eq_true rfl) dX7_init_59 rfl ?_
  show G l noX mX7_init 4 89 9946 (nP 90 (fun h' => CRep h' S0 [])) 89 9946 61 [some (.ref (0))] [.ref (89), .ref (0)] (90, true) (ueh hh47 (89) (cI 128 (fun _ => 0)))
  refine hp_in (fun hh55 ehh55 => ?_)
  have fc56 : hh55 0 = cO 6 [.ref (1), .ref (17), .ref (83), .ref (86), .ref (88), .null] := by rw [ehh55, ueh_n (by decide)]; exact fc48
  have fc57 : hh55 83 = cO 3 [.ref (83 + 1), .ref (83 + 2)] := by rw [ehh55, ueh_n (by decide)]; exact fc49
  have fc58 : hh55 84 = cI 65 Ws := by rw [ehh55, ueh_n (by decide)]; exact fc50
  have fc59 : hh55 85 = cI 65 Es := by rw [ehh55, ueh_n (by decide)]; exact fc51
  have fc60 : hh55 86 = cO 1 [.ref (86 + 1), .int (iI (0))] := by rw [ehh55, ueh_n (by decide)]; exact fc52
  have fc61 : hh55 87 = cI 538 bs := by rw [ehh55, ueh_n (by decide)]; exact fc53
  have fc62 : hh55 88 = cI 4 (fun _ => 0) := by rw [ehh55, ueh_n (by decide)]; exact fc54
  have fc63 : hh55 89 = cI 128 (fun _ => 0) := by rw [ehh55]; exact ueh_s
  refine g_putF (q := 64) fX7_41 rfl (by show _ < 90; omega) fc56 (Nat.le_of_ble_eq_true rfl) (fun _ _ => rfl) (fun _ _ => rfl) dX7_init_61 rfl ?_
  refine hp_in (fun hh64 ehh64 => ?_)
  have fc65 : hh64 0 = cO 6 [.ref (1), .ref (17), .ref (83), .ref (86), .ref (88), .ref (89)] := by rw [ehh64]; exact ueh_s
  have fc66 : hh64 83 = cO 3 [.ref (83 + 1), .ref (83 + 2)] := by rw [ehh64, ueh_n (by decide)]; exact fc57
  have fc67 : hh64 84 = cI 65 Ws := by rw [ehh64, ueh_n (by decide)]; exact fc58
  have fc68 : hh64 85 = cI 65 Es := by rw [ehh64, ueh_n (by decide)]; exact fc59
  have fc69 : hh64 86 = cO 1 [.ref (86 + 1), .int (iI (0))] := by rw [ehh64, ueh_n (by decide)]; exact fc60
  have fc70 : hh64 87 = cI 538 bs := by rw [ehh64, ueh_n (by decide)]; exact fc61
  have fc71 : hh64 88 = cI 4 (fun _ => 0) := by rw [ehh64, ueh_n (by decide)]; exact fc62
  have fc72 : hh64 89 = cI 128 (fun _ => 0) := by rw [ehh64, ueh_n (by decide)]; exact fc63
  have fre : ∀ j, 1 ≤ j → j < 83 → hh64 j = gc j := fun j a b => by rw [ehh64, ueh_n (by omega), ehh55, ueh_n (by omega), ehh47, ueh_n (by omega), ehh39, ueh_n (by omega), ehh32, ueh_n (by omega)]; exact frd j a b
  have sa4 := sa3.moved (h' := hh64) (fun j a b => fre j (by omega) (by omega))
  have hb4 := hb3.moved (h' := hh64) (fun j a b => fre j (by omega) (by omega))
  obtain ⟨z1, z2, -, z4, z5⟩ := sa4
  exact g_vreturn (fun _ => rfl) (Nat.le_of_ble_eq_true rfl) (Nat.le_of_ble_eq_true rfl) dX7_init_64 rfl (nP_in ⟨fc65, z1, z2, z4, fun i hi _ => by have := z5 i hi; rw [show 1 + 4 + 3 * i = 5 + 3 * i by omega] at this; exact this, ⟨0, hb4⟩, ⟨_, _, fc66, fc67, fc68⟩, ⟨0, _, fc69, fc70, by decide⟩, ⟨_, fc71⟩, ⟨_, fc72⟩⟩)
set_option maxRecDepth 4000 in
theorem t_X8_init (l : Launch) (h : EHp) (ha : h 90 = cO 7 [.int (iI (0)), .null, .null, .int (iI (0)), .null, .null, .null, .null, .null, .null, .null, .null]) : CT l mX8_init 1 10 1955 [.ref (90)] (91, true) h (nP 101 (fun h' => MRep h' 0 S0 [] ∧ ∀ j, j < 90 → h' j = h j)) := by
  refine CT.of (by decide) (Nat.le_of_ble_eq_true rfl) ?_
  refine g_al (al2 := [some (.ref (90))]) rfl ?_
  refine g_aload_n (q := 1) rfl rfl dX8_init_0 rfl ?_
  refine g_objInit (q := 4) oiX8_1 (Nat.le_of_ble_eq_true rfl) (Nat.le_of_ble_eq_true rfl) dX8_init_1 rfl ?_
  refine g_aload_n (q := 5) rfl rfl dX8_init_4 rfl ?_
  refine g_sipush (q := 8) (by decide) dX8_init_5 rfl ?_
  refine g_newa_int (q := 10) (nn := 272) ak_int rfl (by decide) (Nat.le_of_ble_eq_true rfl) (Nat.le_of_ble_eq_true rfl) dX8_init_8 rfl ?_
  show G l noX mX8_init 1 10 1955 (nP 101 (fun h' => MRep h' 0 S0 [] ∧ ∀ j, j < 90 → h' j = h j)) 1 272 10 [some (.ref (90))] [.ref (91), .ref (90)] (92, true) (ueh h (91) (cI 272 (fun _ => 0)))
  refine hp_in (fun hh1 ehh1 => ?_)
  have fc2 : hh1 90 = cO 7 [.int (iI (0)), .null, .null, .int (iI (0)), .null, .null, .null, .null, .null, .null, .null, .null] := by rw [ehh1, ueh_n (by decide)]; exact ha
  have fc3 : hh1 91 = cI 272 (fun _ => 0) := by rw [ehh1]; exact ueh_s
  refine g_putF (q := 13) fX8_7 rfl (by show _ < 92; omega) fc2 (Nat.le_of_ble_eq_true rfl) (fun _ _ => rfl) (fun _ _ => rfl) dX8_init_10 rfl ?_
  refine hp_in (fun hh4 ehh4 => ?_)
  have fc5 : hh4 90 = cO 7 [.int (iI (0)), .ref (91), .null, .int (iI (0)), .null, .null, .null, .null, .null, .null, .null, .null] := by rw [ehh4]; exact ueh_s
  have fc6 : hh4 91 = cI 272 (fun _ => 0) := by rw [ehh4, ueh_n (by decide)]; exact fc3
  refine g_aload_n (q := 14) rfl rfl dX8_init_13 rfl ?_
  refine g_sipush (q := 17) (by decide) dX8_init_14 rfl ?_
  refine g_newa_int (q := 19) (nn := 1088) ak_int rfl (by decide) (Nat.le_of_ble_eq_true rfl) (Nat.le_of_ble_eq_true rfl) dX8_init_17 rfl ?_
  show G l noX mX8_init 1 10 1955 (nP 101 (fun h' => MRep h' 0 S0 [] ∧ ∀ j, j < 90 → h' j = h j)) 2 1360 19 [some (.ref (90))] [.ref (92), .ref (90)] (93, true) (ueh hh4 (92) (cI 1088 (fun _ => 0)))
  refine hp_in (fun hh7 ehh7 => ?_)
  have fc8 : hh7 90 = cO 7 [.int (iI (0)), .ref (91), .null, .int (iI (0)), .null, .null, .null, .null, .null, .null, .null, .null] := by rw [ehh7, ueh_n (by decide)]; exact fc5
  have fc9 : hh7 91 = cI 272 (fun _ => 0) := by rw [ehh7, ueh_n (by decide)]; exact fc6
  have fc10 : hh7 92 = cI 1088 (fun _ => 0) := by rw [ehh7]; exact ueh_s
  refine g_putF (q := 22) fX8_13 rfl (by show _ < 93; omega) fc8 (Nat.le_of_ble_eq_true rfl) (fun _ _ => rfl) (fun _ _ => rfl) dX8_init_19 rfl ?_
  refine hp_in (fun hh11 ehh11 => ?_)
  have fc12 : hh11 90 = cO 7 [.int (iI (0)), .ref (91), .ref (92), .int (iI (0)), .null, .null, .null, .null, .null, .null, .null, .null] := by rw [ehh11]; exact ueh_s
  have fc13 : hh11 91 = cI 272 (fun _ => 0) := by rw [ehh11, ueh_n (by decide)]; exact fc9
  have fc14 : hh11 92 = cI 1088 (fun _ => 0) := by rw [ehh11, ueh_n (by decide)]; exact fc10
  refine g_aload_n (q := 23) rfl rfl dX8_init_22 rfl ?_
  refine g_sipush (q := 26) (by decide) dX8_init_23 rfl ?_
  refine g_newa_int (q := 28) (nn := 260) ak_int rfl (by decide) (Nat.le_of_ble_eq_true rfl) (Nat.le_of_ble_eq_true rfl) dX8_init_26 rfl ?_
  show G l noX mX8_init 1 10 1955 (nP 101 (fun h' => MRep h' 0 S0 [] ∧ ∀ j, j < 90 → h' j = h j)) 3 1620 28 [some (.ref (90))] [.ref (93), .ref (90)] (94, true) (ueh hh11 (93) (cI 260 (fun _ => 0)))
  refine hp_in (fun hh15 ehh15 => ?_)
  have fc16 : hh15 90 = cO 7 [.int (iI (0)), .ref (91), .ref (92), .int (iI (0)), .null, .null, .null, .null, .null, .null, .null, .null] := by rw [ehh15, ueh_n (by decide)]; exact fc12
  have fc17 : hh15 91 = cI 272 (fun _ => 0) := by rw [ehh15, ueh_n (by decide)]; exact fc13
  have fc18 : hh15 92 = cI 1088 (fun _ => 0) := by rw [ehh15, ueh_n (by decide)]; exact fc14
  have fc19 : hh15 93 = cI 260 (fun _ => 0) := by rw [ehh15]; exact ueh_s
  refine g_putF (q := 31) fX8_16 rfl (by show _ < 94; omega) fc16 (Nat.le_of_ble_eq_true rfl) (fun _ _ => rfl) (fun _ _ => rfl) dX8_init_28 rfl ?_
  refine hp_in (fun hh20 ehh20 => ?_)
  have fc21 : hh20 90 = cO 7 [.int (iI (0)), .ref (91), .ref (92), .int (iI (0)), .ref (93), .null, .null, .null, .null, .null, .null, .null] := by rw [ehh20]; exact ueh_s
  have fc22 : hh20 91 = cI 272 (fun _ => 0) := by rw [ehh20, ueh_n (by decide)]; exact fc17
  have fc23 : hh20 92 = cI 1088 (fun _ => 0) := by rw [ehh20, ueh_n (by decide)]; exact fc18
  have fc24 : hh20 93 = cI 260 (fun _ => 0) := by rw [ehh20, ueh_n (by decide)]; exact fc19
  refine g_aload_n (q := 32) rfl rfl dX8_init_31 rfl ?_
  refine g_iconst (q := 33) dX8_init_32 rfl ?_
  refine g_newa_int (q := 35) (nn := 4) ak_int rfl (by decide) (Nat.le_of_ble_eq_true rfl) (Nat.le_of_ble_eq_true rfl) dX8_init_33 rfl ?_
  show G l noX mX8_init 1 10 1955 (nP 101 (fun h' => MRep h' 0 S0 [] ∧ ∀ j, j < 90 → h' j = h j)) 4 1624 35 [some (.ref (90))] [.ref (94), .ref (90)] (95, true) (ueh hh20 (94) (cI 4 (fun _ => 0)))
  refine hp_in (fun hh25 ehh25 => ?_)
  have fc26 : hh25 90 = cO 7 [.int (iI (0)), .ref (91), .ref (92), .int (iI (0)), .ref (93), .null, .null, .null, .null, .null, .null, .null] := by rw [ehh25, ueh_n (by decide)]; exact fc21
  have fc27 : hh25 91 = cI 272 (fun _ => 0) := by rw [ehh25, ueh_n (by decide)]; exact fc22
  have fc28 : hh25 92 = cI 1088 (fun _ => 0) := by rw [ehh25, ueh_n (by decide)]; exact fc23
  have fc29 : hh25 93 = cI 260 (fun _ => 0) := by rw [ehh25, ueh_n (by decide)]; exact fc24
  have fc30 : hh25 94 = cI 4 (fun _ => 0) := by rw [ehh25]; exact ueh_s
  refine g_putF (q := 38) fX8_19 rfl (by show _ < 95; omega) fc26 (Nat.le_of_ble_eq_true rfl) (fun _ _ => rfl) (fun _ _ => rfl) dX8_init_35 rfl ?_
  refine hp_in (fun hh31 ehh31 => ?_)
  have fc32 : hh31 90 = cO 7 [.int (iI (0)), .ref (91), .ref (92), .int (iI (0)), .ref (93), .ref (94), .null, .null, .null, .null, .null, .null] := by rw [ehh31]; exact ueh_s
  have fc33 : hh31 91 = cI 272 (fun _ => 0) := by rw [ehh31, ueh_n (by decide)]; exact fc27
  have fc34 : hh31 92 = cI 1088 (fun _ => 0) := by rw [ehh31, ueh_n (by decide)]; exact fc28
  have fc35 : hh31 93 = cI 260 (fun _ => 0) := by rw [ehh31, ueh_n (by decide)]; exact fc29
  have fc36 : hh31 94 = cI 4 (fun _ => 0) := by rw [ehh31, ueh_n (by decide)]; exact fc30
  refine g_aload_n (q := 39) rfl rfl dX8_init_38 rfl ?_
  refine g_iconst (q := 40) dX8_init_39 rfl ?_
  refine g_newa_boolean (q := 42) (nn := 4) ak_boolean rfl (by decide) (Nat.le_of_ble_eq_true rfl) (Nat.le_of_ble_eq_true rfl) dX8_init_40 rfl ?_
  show G l noX mX8_init 1 10 1955 (nP 101 (fun h' => MRep h' 0 S0 [] ∧ ∀ j, j < 90 → h' j = h j)) 5 1628 42 [some (.ref (90))] [.ref (95), .ref (90)] (96, true) (ueh hh31 (95) (cZ 4 (fun _ => 0)))
  refine hp_in (fun hh37 ehh37 => ?_)
  have fc38 : hh37 90 = cO 7 [.int (iI (0)), .ref (91), .ref (92), .int (iI (0)), .ref (93), .ref (94), .null, .null, .null, .null, .null, .null] := by rw [ehh37, ueh_n (by decide)]; exact fc32
  have fc39 : hh37 91 = cI 272 (fun _ => 0) := by rw [ehh37, ueh_n (by decide)]; exact fc33
  have fc40 : hh37 92 = cI 1088 (fun _ => 0) := by rw [ehh37, ueh_n (by decide)]; exact fc34
  have fc41 : hh37 93 = cI 260 (fun _ => 0) := by rw [ehh37, ueh_n (by decide)]; exact fc35
  have fc42 : hh37 94 = cI 4 (fun _ => 0) := by rw [ehh37, ueh_n (by decide)]; exact fc36
  have fc43 : hh37 95 = cZ 4 (fun _ => 0) := by rw [ehh37]; exact ueh_s
  refine g_putF (q := 45) fX8_22 rfl (by show _ < 96; omega) fc38 (Nat.le_of_ble_eq_true rfl) (fun _ _ => rfl) (fun _ _ => rfl) dX8_init_42 rfl ?_
  refine hp_in (fun hh44 ehh44 => ?_)
  have fc45 : hh44 90 = cO 7 [.int (iI (0)), .ref (91), .ref (92), .int (iI (0)), .ref (93), .ref (94), .ref (95), .null, .null, .null, .null, .null] := by rw [ehh44]; exact ueh_s
  have fc46 : hh44 91 = cI 272 (fun _ => 0) := by rw [ehh44, ueh_n (by decide)]; exact fc39
  have fc47 : hh44 92 = cI 1088 (fun _ => 0) := by rw [ehh44, ueh_n (by decide)]; exact fc40
  have fc48 : hh44 93 = cI 260 (fun _ => 0) := by rw [ehh44, ueh_n (by decide)]; exact fc41
  have fc49 : hh44 94 = cI 4 (fun _ => 0) := by rw [ehh44, ueh_n (by decide)]; exact fc42
  have fc50 : hh44 95 = cZ 4 (fun _ => 0) := by rw [ehh44, ueh_n (by decide)]; exact fc43
  refine g_aload_n (q := 46) rfl rfl dX8_init_45 rfl ?_
  refine g_bipush (q := 48) (by decide) dX8_init_46 rfl ?_
  refine g_newa_int (q := 50) (nn := 65) ak_int rfl (by decide) (Nat.le_of_ble_eq_true rfl) (Nat.le_of_ble_eq_true rfl) dX8_init_48 rfl ?_
  show G l noX mX8_init 1 10 1955 (nP 101 (fun h' => MRep h' 0 S0 [] ∧ ∀ j, j < 90 → h' j = h j)) 6 1693 50 [some (.ref (90))] [.ref (96), .ref (90)] (97, true) (ueh hh44 (96) (cI 65 (fun _ => 0)))
  refine hp_in (fun hh51 ehh51 => ?_)
  have fc52 : hh51 90 = cO 7 [.int (iI (0)), .ref (91), .ref (92), .int (iI (0)), .ref (93), .ref (94), .ref (95), .null, .null, .null, .null, .null] := by rw [ehh51, ueh_n (by decide)]; exact fc45
  have fc53 : hh51 91 = cI 272 (fun _ => 0) := by rw [ehh51, ueh_n (by decide)]; exact fc46
  have fc54 : hh51 92 = cI 1088 (fun _ => 0) := by rw [ehh51, ueh_n (by decide)]; exact fc47
  have fc55 : hh51 93 = cI 260 (fun _ => 0) := by rw [ehh51, ueh_n (by decide)]; exact fc48
  have fc56 : hh51 94 = cI 4 (fun _ => 0) := by rw [ehh51, ueh_n (by decide)]; exact fc49
  have fc57 : hh51 95 = cZ 4 (fun _ => 0) := by rw [ehh51, ueh_n (by decide)]; exact fc50
  have fc58 : hh51 96 = cI 65 (fun _ => 0) := by rw [ehh51]; exact ueh_s
  refine g_putF (q := 53) fX8_26 rfl (by show _ < 97; omega) fc52 (Nat.le_of_ble_eq_true rfl) (fun _ _ => rfl) (fun _ _ => rfl) dX8_init_50 rfl ?_
  refine hp_in (fun hh59 ehh59 => ?_)
  have fc60 : hh59 90 = cO 7 [.int (iI (0)), .ref (91), .ref (92), .int (iI (0)), .ref (93), .ref (94), .ref (95), .ref (96), .null, .null, .null, .null] := by rw [ehh59]; exact ueh_s
  have fc61 : hh59 91 = cI 272 (fun _ => 0) := by rw [ehh59, ueh_n (by decide)]; exact fc53
  have fc62 : hh59 92 = cI 1088 (fun _ => 0) := by rw [ehh59, ueh_n (by decide)]; exact fc54
  have fc63 : hh59 93 = cI 260 (fun _ => 0) := by rw [ehh59, ueh_n (by decide)]; exact fc55
  have fc64 : hh59 94 = cI 4 (fun _ => 0) := by rw [ehh59, ueh_n (by decide)]; exact fc56
  have fc65 : hh59 95 = cZ 4 (fun _ => 0) := by rw [ehh59, ueh_n (by decide)]; exact fc57
  have fc66 : hh59 96 = cI 65 (fun _ => 0) := by rw [ehh59, ueh_n (by decide)]; exact fc58
  refine g_aload_n (q := 54) rfl rfl dX8_init_53 rfl ?_
  refine g_bipush (q := 56) (by decide) dX8_init_54 rfl ?_
  refine g_newa_int (q := 58) (nn := 65) ak_int rfl (by decide) (Nat.le_of_ble_eq_true rfl) (Nat.le_of_ble_eq_true rfl) dX8_init_56 rfl ?_
  show G l noX mX8_init 1 10 1955 (nP 101 (fun h' => MRep h' 0 S0 [] ∧ ∀ j, j < 90 → h' j = h j)) 7 1758 58 [some (.ref (90))] [.ref (97), .ref (90)] (98, true) (ueh hh59 (97) (cI 65 (fun _ => 0)))
  refine hp_in (fun hh67 ehh67 => ?_)
  have fc68 : hh67 90 = cO 7 [.int (iI (0)), .ref (91), .ref (92), .int (iI (0)), .ref (93), .ref (94), .ref (95), .ref (96), .null, .null, .null, .null] := by rw [ehh67, ueh_n (by decide)]; exact fc60
  have fc69 : hh67 91 = cI 272 (fun _ => 0) := by rw [ehh67, ueh_n (by decide)]; exact fc61
  have fc70 : hh67 92 = cI 1088 (fun _ => 0) := by rw [ehh67, ueh_n (by decide)]; exact fc62
  have fc71 : hh67 93 = cI 260 (fun _ => 0) := by rw [ehh67, ueh_n (by decide)]; exact fc63
  have fc72 : hh67 94 = cI 4 (fun _ => 0) := by rw [ehh67, ueh_n (by decide)]; exact fc64
  have fc73 : hh67 95 = cZ 4 (fun _ => 0) := by rw [ehh67, ueh_n (by decide)]; exact fc65
  have fc74 : hh67 96 = cI 65 (fun _ => 0) := by rw [ehh67, ueh_n (by decide)]; exact fc66
  have fc75 : hh67 97 = cI 65 (fun _ => 0) := by rw [ehh67]; exact ueh_s
  refine g_putF (q := 61) fX8_29 rfl (by show _ < 98; omega) fc68 (Nat.le_of_ble_eq_true rfl) (fun _ _ => rfl) (fun _ _ => rfl) dX8_init_58 rfl ?_
  refine hp_in (fun hh76 ehh76 => ?_)
  have fc77 : hh76 90 = cO 7 [.int (iI (0)), .ref (91), .ref (92), .int (iI (0)), .ref (93), .ref (94), .ref (95), .ref (96), .ref (97), .null, .null, .null] := by rw [ehh76]; exact ueh_s
  have fc78 : hh76 91 = cI 272 (fun _ => 0) := by rw [ehh76, ueh_n (by decide)]; exact fc69
  have fc79 : hh76 92 = cI 1088 (fun _ => 0) := by rw [ehh76, ueh_n (by decide)]; exact fc70
  have fc80 : hh76 93 = cI 260 (fun _ => 0) := by rw [ehh76, ueh_n (by decide)]; exact fc71
  have fc81 : hh76 94 = cI 4 (fun _ => 0) := by rw [ehh76, ueh_n (by decide)]; exact fc72
  have fc82 : hh76 95 = cZ 4 (fun _ => 0) := by rw [ehh76, ueh_n (by decide)]; exact fc73
  have fc83 : hh76 96 = cI 65 (fun _ => 0) := by rw [ehh76, ueh_n (by decide)]; exact fc74
  have fc84 : hh76 97 = cI 65 (fun _ => 0) := by rw [ehh76, ueh_n (by decide)]; exact fc75
  refine g_aload_n (q := 62) rfl rfl dX8_init_61 rfl ?_
  refine g_bipush (q := 64) (by decide) dX8_init_62 rfl ?_
  refine g_newa_int (q := 66) (nn := 65) ak_int rfl (by decide) (Nat.le_of_ble_eq_true rfl) (Nat.le_of_ble_eq_true rfl) dX8_init_64 rfl ?_
  show G l noX mX8_init 1 10 1955 (nP 101 (fun h' => MRep h' 0 S0 [] ∧ ∀ j, j < 90 → h' j = h j)) 8 1823 66 [some (.ref (90))] [.ref (98), .ref (90)] (99, true) (ueh hh76 (98) (cI 65 (fun _ => 0)))
  refine hp_in (fun hh85 ehh85 => ?_)
  have fc86 : hh85 90 = cO 7 [.int (iI (0)), .ref (91), .ref (92), .int (iI (0)), .ref (93), .ref (94), .ref (95), .ref (96), .ref (97), .null, .null, .null] := by rw [ehh85, ueh_n (by decide)]; exact fc77
  have fc87 : hh85 91 = cI 272 (fun _ => 0) := by rw [ehh85, ueh_n (by decide)]; exact fc78
  have fc88 : hh85 92 = cI 1088 (fun _ => 0) := by rw [ehh85, ueh_n (by decide)]; exact fc79
  have fc89 : hh85 93 = cI 260 (fun _ => 0) := by rw [ehh85, ueh_n (by decide)]; exact fc80
  have fc90 : hh85 94 = cI 4 (fun _ => 0) := by rw [ehh85, ueh_n (by decide)]; exact fc81
  have fc91 : hh85 95 = cZ 4 (fun _ => 0) := by rw [ehh85, ueh_n (by decide)]; exact fc82
  have fc92 : hh85 96 = cI 65 (fun _ => 0) := by rw [ehh85, ueh_n (by decide)]; exact fc83
  have fc93 : hh85 97 = cI 65 (fun _ => 0) := by rw [ehh85, ueh_n (by decide)]; exact fc84
  have fc94 : hh85 98 = cI 65 (fun _ => 0) := by rw [ehh85]; exact ueh_s
  refine g_putF (q := 69) fX8_32 rfl (by show _ < 99; omega) fc86 (Nat.le_of_ble_eq_true rfl) (fun _ _ => rfl) (fun _ _ => rfl) dX8_init_66 rfl ?_
  refine hp_in (fun hh95 ehh95 => ?_)
  have fc96 : hh95 90 = cO 7 [.int (iI (0)), .ref (91), .ref (92), .int (iI (0)), .ref (93), .ref (94), .ref (95), .ref (96), .ref (97), .ref (98), .null, .null] := by rw [ehh95]; exact ueh_s
  have fc97 : hh95 91 = cI 272 (fun _ => 0) := by rw [ehh95, ueh_n (by decide)]; exact fc87
  have fc98 : hh95 92 = cI 1088 (fun _ => 0) := by rw [ehh95, ueh_n (by decide)]; exact fc88
  have fc99 : hh95 93 = cI 260 (fun _ => 0) := by rw [ehh95, ueh_n (by decide)]; exact fc89
  have fc100 : hh95 94 = cI 4 (fun _ => 0) := by rw [ehh95, ueh_n (by decide)]; exact fc90
  have fc101 : hh95 95 = cZ 4 (fun _ => 0) := by rw [ehh95, ueh_n (by decide)]; exact fc91
  have fc102 : hh95 96 = cI 65 (fun _ => 0) := by rw [ehh95, ueh_n (by decide)]; exact fc92
  have fc103 : hh95 97 = cI 65 (fun _ => 0) := by rw [ehh95, ueh_n (by decide)]; exact fc93
  have fc104 : hh95 98 = cI 65 (fun _ => 0) := by rw [ehh95, ueh_n (by decide)]; exact fc94
  refine g_aload_n (q := 70) rfl rfl dX8_init_69 rfl ?_
  refine g_sipush (q := 73) (by decide) dX8_init_70 rfl ?_
  refine g_newa_int (q := 75) (nn := 128) ak_int rfl (by decide) (Nat.le_of_ble_eq_true rfl) (Nat.le_of_ble_eq_true rfl) dX8_init_73 rfl ?_
  show G l noX mX8_init 1 10 1955 (nP 101 (fun h' => MRep h' 0 S0 [] ∧ ∀ j, j < 90 → h' j = h j)) 9 1951 75 [some (.ref (90))] [.ref (99), .ref (90)] (100, true) (ueh hh95 (99) (cI 128 (fun _ => 0)))
  refine hp_in (fun hh105 ehh105 => ?_)
  have fc106 : hh105 90 = cO 7 [.int (iI (0)), .ref (91), .ref (92), .int (iI (0)), .ref (93), .ref (94), .ref (95), .ref (96), .ref (97), .ref (98), .null, .null] := by rw [ehh105, ueh_n (by decide)]; exact fc96
  have fc107 : hh105 91 = cI 272 (fun _ => 0) := by rw [ehh105, ueh_n (by decide)]; exact fc97
  have fc108 : hh105 92 = cI 1088 (fun _ => 0) := by rw [ehh105, ueh_n (by decide)]; exact fc98
  have fc109 : hh105 93 = cI 260 (fun _ => 0) := by rw [ehh105, ueh_n (by decide)]; exact fc99
  have fc110 : hh105 94 = cI 4 (fun _ => 0) := by rw [ehh105, ueh_n (by decide)]; exact fc100
  have fc111 : hh105 95 = cZ 4 (fun _ => 0) := by rw [ehh105, ueh_n (by decide)]; exact fc101
  have fc112 : hh105 96 = cI 65 (fun _ => 0) := by rw [ehh105, ueh_n (by decide)]; exact fc102
  have fc113 : hh105 97 = cI 65 (fun _ => 0) := by rw [ehh105, ueh_n (by decide)]; exact fc103
  have fc114 : hh105 98 = cI 65 (fun _ => 0) := by rw [ehh105, ueh_n (by decide)]; exact fc104
  have fc115 : hh105 99 = cI 128 (fun _ => 0) := by rw [ehh105]; exact ueh_s
  refine g_putF (q := 78) fX8_35 rfl (by show _ < 100; omega) fc106 (Nat.le_of_ble_eq_true rfl) (fun _ _ => rfl) (fun _ _ => rfl) dX8_init_75 rfl ?_
  refine hp_in (fun hh116 ehh116 => ?_)
  have fc117 : hh116 90 = cO 7 [.int (iI (0)), .ref (91), .ref (92), .int (iI (0)), .ref (93), .ref (94), .ref (95), .ref (96), .ref (97), .ref (98), .ref (99), .null] := by rw [ehh116]; exact ueh_s
  have fc118 : hh116 91 = cI 272 (fun _ => 0) := by rw [ehh116, ueh_n (by decide)]; exact fc107
  have fc119 : hh116 92 = cI 1088 (fun _ => 0) := by rw [ehh116, ueh_n (by decide)]; exact fc108
  have fc120 : hh116 93 = cI 260 (fun _ => 0) := by rw [ehh116, ueh_n (by decide)]; exact fc109
  have fc121 : hh116 94 = cI 4 (fun _ => 0) := by rw [ehh116, ueh_n (by decide)]; exact fc110
  have fc122 : hh116 95 = cZ 4 (fun _ => 0) := by rw [ehh116, ueh_n (by decide)]; exact fc111
  have fc123 : hh116 96 = cI 65 (fun _ => 0) := by rw [ehh116, ueh_n (by decide)]; exact fc112
  have fc124 : hh116 97 = cI 65 (fun _ => 0) := by rw [ehh116, ueh_n (by decide)]; exact fc113
  have fc125 : hh116 98 = cI 65 (fun _ => 0) := by rw [ehh116, ueh_n (by decide)]; exact fc114
  have fc126 : hh116 99 = cI 128 (fun _ => 0) := by rw [ehh116, ueh_n (by decide)]; exact fc115
  refine g_aload_n (q := 79) rfl rfl dX8_init_78 rfl ?_
  refine g_iconst (q := 80) dX8_init_79 rfl ?_
  refine g_newa_int (q := 82) (nn := 4) ak_int rfl (by decide) (Nat.le_of_ble_eq_true rfl) (Nat.le_of_ble_eq_true rfl) dX8_init_80 rfl ?_
  show G l noX mX8_init 1 10 1955 (nP 101 (fun h' => MRep h' 0 S0 [] ∧ ∀ j, j < 90 → h' j = h j)) 10 1955 82 [some (.ref (90))] [.ref (100), .ref (90)] (101, true) (ueh hh116 (100) (cI 4 (fun _ => 0)))
  refine hp_in (fun hh127 ehh127 => ?_)
  have fc128 : hh127 90 = cO 7 [.int (iI (0)), .ref (91), .ref (92), .int (iI (0)), .ref (93), .ref (94), .ref (95), .ref (96), .ref (97), .ref (98), .ref (99), .null] := by rw [ehh127, ueh_n (by decide)]; exact fc117
  have fc129 : hh127 91 = cI 272 (fun _ => 0) := by rw [ehh127, ueh_n (by decide)]; exact fc118
  have fc130 : hh127 92 = cI 1088 (fun _ => 0) := by rw [ehh127, ueh_n (by decide)]; exact fc119
  have fc131 : hh127 93 = cI 260 (fun _ => 0) := by rw [ehh127, ueh_n (by decide)]; exact fc120
  have fc132 : hh127 94 = cI 4 (fun _ => 0) := by rw [ehh127, ueh_n (by decide)]; exact fc121
  have fc133 : hh127 95 = cZ 4 (fun _ => 0) := by rw [ehh127, ueh_n (by decide)]; exact fc122
  have fc134 : hh127 96 = cI 65 (fun _ => 0) := by rw [ehh127, ueh_n (by decide)]; exact fc123
  have fc135 : hh127 97 = cI 65 (fun _ => 0) := by rw [ehh127, ueh_n (by decide)]; exact fc124
  have fc136 : hh127 98 = cI 65 (fun _ => 0) := by rw [ehh127, ueh_n (by decide)]; exact fc125
  have fc137 : hh127 99 = cI 128 (fun _ => 0) := by rw [ehh127, ueh_n (by decide)]; exact fc126
  have fc138 : hh127 100 = cI 4 (fun _ => 0) := by rw [ehh127]; exact ueh_s
  refine g_putF (q := 85) fX8_38 rfl (by show _ < 101; omega) fc128 (Nat.le_of_ble_eq_true rfl) (fun _ _ => rfl) (fun _ _ => rfl) dX8_init_82 rfl ?_
  refine hp_in (fun hh139 ehh139 => ?_)
  have fc140 : hh139 90 = cO 7 [.int (iI (0)), .ref (91), .ref (92), .int (iI (0)), .ref (93), .ref (94), .ref (95), .ref (96), .ref (97), .ref (98), .ref (99), .ref (100)] := by rw [ehh139]; exact ueh_s
  have fc141 : hh139 91 = cI 272 (fun _ => 0) := by rw [ehh139, ueh_n (by decide)]; exact fc129
  have fc142 : hh139 92 = cI 1088 (fun _ => 0) := by rw [ehh139, ueh_n (by decide)]; exact fc130
  have fc143 : hh139 93 = cI 260 (fun _ => 0) := by rw [ehh139, ueh_n (by decide)]; exact fc131
  have fc144 : hh139 94 = cI 4 (fun _ => 0) := by rw [ehh139, ueh_n (by decide)]; exact fc132
  have fc145 : hh139 95 = cZ 4 (fun _ => 0) := by rw [ehh139, ueh_n (by decide)]; exact fc133
  have fc146 : hh139 96 = cI 65 (fun _ => 0) := by rw [ehh139, ueh_n (by decide)]; exact fc134
  have fc147 : hh139 97 = cI 65 (fun _ => 0) := by rw [ehh139, ueh_n (by decide)]; exact fc135
  have fc148 : hh139 98 = cI 65 (fun _ => 0) := by rw [ehh139, ueh_n (by decide)]; exact fc136
  have fc149 : hh139 99 = cI 128 (fun _ => 0) := by rw [ehh139, ueh_n (by decide)]; exact fc137
  have fc150 : hh139 100 = cI 4 (fun _ => 0) := by rw [ehh139, ueh_n (by decide)]; exact fc138
  refine g_aload_n (q := 86) rfl rfl dX8_init_85 rfl ?_
  refine g_get (q := 89) fX8_7r (by show _ < 101; omega) fc140 rfl dX8_init_86 rfl ?_
  refine g_sipush (q := 92) (by decide) dX8_init_89 rfl ?_
  refine g_iconst (q := 93) dX8_init_92 rfl ?_
  refine g_iastore (q := 94) (by show _ < 101; omega) fc141 (by decide) (by decide) (by decide) dX8_init_93 rfl ?_
  refine hp_in (fun hh151 ehh151 => ?_)
  have fc152 : hh151 90 = cO 7 [.int (iI (0)), .ref (91), .ref (92), .int (iI (0)), .ref (93), .ref (94), .ref (95), .ref (96), .ref (97), .ref (98), .ref (99), .ref (100)] := by rw [ehh151, ueh_n (by decide)]; exact fc140
  have fc153 : hh151 91 = cI 272 (ui (fun _ => 0) 260 4) := by rw [ehh151]; exact ueh_s
  have fc154 : hh151 92 = cI 1088 (fun _ => 0) := by rw [ehh151, ueh_n (by decide)]; exact fc142
  have fc155 : hh151 93 = cI 260 (fun _ => 0) := by rw [ehh151, ueh_n (by decide)]; exact fc143
  have fc156 : hh151 94 = cI 4 (fun _ => 0) := by rw [ehh151, ueh_n (by decide)]; exact fc144
  have fc157 : hh151 95 = cZ 4 (fun _ => 0) := by rw [ehh151, ueh_n (by decide)]; exact fc145
  have fc158 : hh151 96 = cI 65 (fun _ => 0) := by rw [ehh151, ueh_n (by decide)]; exact fc146
  have fc159 : hh151 97 = cI 65 (fun _ => 0) := by rw [ehh151, ueh_n (by decide)]; exact fc147
  have fc160 : hh151 98 = cI 65 (fun _ => 0) := by rw [ehh151, ueh_n (by decide)]; exact fc148
  have fc161 : hh151 99 = cI 128 (fun _ => 0) := by rw [ehh151, ueh_n (by decide)]; exact fc149
  have fc162 : hh151 100 = cI 4 (fun _ => 0) := by rw [ehh151, ueh_n (by decide)]; exact fc150
  exact g_vreturn (fun _ => rfl) (Nat.le_of_ble_eq_true rfl) (Nat.le_of_ble_eq_true rfl) dX8_init_94 rfl (nP_in ⟨⟨_, _, _, _, _, fc152, ⟨fc153, fc154, fc155, fc156, fc157⟩, ⟨⟨_, fc158⟩, ⟨_, fc159⟩, ⟨_, fc160⟩, ⟨_, fc161⟩, ⟨_, fc162⟩⟩, WR0, ⟨by decide, fun j S hj => (by cases hj)⟩, fun i hi => ⟨Or.inl rfl, fun z => (by cases z)⟩⟩, fun j hj => by rw [ehh151, ueh_n (by omega), ehh139, ueh_n (by omega), ehh127, ueh_n (by omega), ehh116, ueh_n (by omega), ehh105, ueh_n (by omega), ehh95, ueh_n (by omega), ehh85, ueh_n (by omega), ehh76, ueh_n (by omega), ehh67, ueh_n (by omega), ehh59, ueh_n (by omega), ehh51, ueh_n (by omega), ehh44, ueh_n (by omega), ehh37, ueh_n (by omega), ehh31, ueh_n (by omega), ehh25, ueh_n (by omega), ehh20, ueh_n (by omega), ehh15, ueh_n (by omega), ehh11, ueh_n (by omega), ehh7, ueh_n (by omega), ehh4, ueh_n (by omega), ehh1, ueh_n (by omega)]⟩)
