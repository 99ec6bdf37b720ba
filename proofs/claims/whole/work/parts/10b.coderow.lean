/-! ===== CodeRow: its parts ===== -/
set_option maxRecDepth 4000 in
theorem t_X1_bitAt (l : Launch) (h : EHp) (r : Nat) (len : Int) (bs : Int → Int) (hR0 : CR h r len bs) (i : Int) (h0 : 0 ≤ i) (h1 : i < len) (h2 : len ≤ 538) : CT l mX1_bitAt 0 0 0 [.ref (r), .int (iI (i))] NN h (rP (.int (iI (bs i))) h) := by
  obtain ⟨hR, hB, hlt⟩ := hR0
  refine CT.of (by decide) (Nat.le_of_ble_eq_true rfl) ?_
  refine g_al (al2 := [some (.ref (r)), some (.int (iI (i)))]) rfl ?_
  refine g_iload_n (q := 1) rfl rfl dX1_bitAt_0 rfl ?_
  refine g_if_lt (t := 21) (q := 4) ⟨by omega, by omega⟩ dX1_bitAt_1 rfl rfl (fun c1 => ?_) (fun c1 => ?_)
  · omega
  · refine g_iload_n (q := 5) rfl rfl dX1_bitAt_4 rfl ?_
    refine g_aload_n (q := 6) rfl rfl dX1_bitAt_5 rfl ?_
    refine g_get (q := 9) fX1_15r (by show _ < 103; omega) hR rfl dX1_bitAt_6 rfl ?_
    refine g_icmp_ge (t := 21) (q := 12) ⟨by omega, by omega⟩ ⟨by omega, by omega⟩ dX1_bitAt_9 rfl rfl (fun c9 => ?_) (fun c9 => ?_)
    · omega
    · refine g_aload_n (q := 13) rfl rfl dX1_bitAt_12 rfl ?_
      refine g_get (q := 16) fX1_9r (by show _ < 103; omega) hR rfl dX1_bitAt_13 rfl ?_
      refine g_iload_n (q := 17) rfl rfl dX1_bitAt_16 rfl ?_
      refine g_iaload (q := 18) (by show _ < 103; omega) hB (by omega) (by omega) (by decide) dX1_bitAt_17 rfl ?_
      refine g_goto (q := 22) dX1_bitAt_18 rfl ?_
      exact g_ireturn (fun z => NN_f z) (Nat.le_of_ble_eq_true rfl) (Nat.le_of_ble_eq_true rfl) dX1_bitAt_22 rfl rP_in
set_option maxRecDepth 4000 in
theorem t_X1_setBit (l : Launch) (h : EHp) (r : Nat) (len : Int) (bs : Int → Int) (hR0 : CR h r len bs) (i : Int) (h0 : 0 ≤ i) (h1 : i < len) (h2 : len ≤ 538) : CT l mX1_setBit 0 0 0 [.ref (r), .int (iI (i))] NN h (vP (fun h' => CR h' r len (ui bs i 1) ∧ Fr2 h h' r)) := by
  obtain ⟨hR, hB, hlt⟩ := hR0
  refine CT.of (by decide) (Nat.le_of_ble_eq_true rfl) ?_
  refine g_al (al2 := [some (.ref (r)), some (.int (iI (i)))]) rfl ?_
  refine g_iload_n (q := 1) rfl rfl dX1_setBit_0 rfl ?_
  refine g_if_lt (t := 19) (q := 4) ⟨by omega, by omega⟩ dX1_setBit_1 rfl rfl (fun c1 => ?_) (fun c1 => ?_)
  · omega
  · refine g_iload_n (q := 5) rfl rfl dX1_setBit_4 rfl ?_
    refine g_aload_n (q := 6) rfl rfl dX1_setBit_5 rfl ?_
    refine g_get (q := 9) fX1_15r (by show _ < 103; omega) hR rfl dX1_setBit_6 rfl ?_
    refine g_icmp_ge (t := 19) (q := 12) ⟨by omega, by omega⟩ ⟨by omega, by omega⟩ dX1_setBit_9 rfl rfl (fun c9 => ?_) (fun c9 => ?_)
    · omega
    · refine g_aload_n (q := 13) rfl rfl dX1_setBit_12 rfl ?_
      refine g_get (q := 16) fX1_9r (by show _ < 103; omega) hR rfl dX1_setBit_13 rfl ?_
      refine g_iload_n (q := 17) rfl rfl dX1_setBit_16 rfl ?_
      refine g_iconst (q := 18) dX1_setBit_17 rfl ?_
      refine g_iastore (q := 19) (by show _ < 103; omega) hB (by omega) (by omega) (by decide) dX1_setBit_18 rfl ?_
      refine hp_in (fun hh1 ehh1 => ?_)
      have fc2 : hh1 r = cO 1 [.ref (r + 1), .int (iI (len))] := by rw [ehh1, ueh_n (by omega)]; exact hR
      have fc3 : hh1 (r + 1) = cI 538 (ui bs i 1) := by rw [ehh1]; exact ueh_s
      exact g_vreturn (fun z => NN_f z) (Nat.le_of_ble_eq_true rfl) (Nat.le_of_ble_eq_true rfl) dX1_setBit_19 rfl (vP_in ⟨⟨fc2, fc3, hlt⟩, fun j j1 j2 => by rw [ehh1, ueh_n (by omega)]⟩)
set_option maxRecDepth 4000 in
theorem t_X1_put (l : Launch) (h : EHp) (r : Nat) (len : Int) (bs : Int → Int) (hR0 : CR h r len bs) (v wi : Int) (h0 : 0 ≤ len) (hv0 : 0 ≤ v) (hv1 : v < 2147483648) (hw0 : 0 ≤ wi) (hw1 : len + wi ≤ 538) (hw2 : v = 0 ∨ wi ≤ 32) : CT l mX1_put 0 0 0 [.ref (r), .int (iI (v)), .int (iI (wi))] NN h (vP (fun h' => ∃ bs', CR h' r (len + wi) bs' ∧ (∀ j, bs' j = if len ≤ j ∧ j < len + wi then bt v (j - len) else bs j) ∧ Fr2 h h' r)) := by
  obtain ⟨hR, hB, hlt⟩ := hR0
  refine CT.of (by decide) (Nat.le_of_ble_eq_true rfl) ?_
  refine g_al (al2 := [some (.ref (r)), some (.int (iI (v))), some (.int (iI (wi))), none]) rfl ?_
  refine g_iconst (q := 1) dX1_put_0 rfl ?_
  refine g_istore_n (q := 2) (al2 := [some (.ref (r)), some (.int (iI (v))), some (.int (iI (wi))), some (.int (iI (0)))]) rfl (by decide) rfl rfl dX1_put_1 rfl ?_
  refine loopG (σ := Int × (Int → Int) × EHp) (P := fun zz => match zz with | (i, bs1, h1) => G l noX mX1_put 0 0 0 (vP (fun h' => ∃ bs', CR h' r (len + wi) bs' ∧ (∀ j, bs' j = if len ≤ j ∧ j < len + wi then bt v (j - len) else bs j) ∧ Fr2 h h' r)) 0 0 2 [some (.ref (r)), some (.int (iI (v))), some (.int (iI (wi))), some (.int (iI (i)))] [] NN h1) (I := fun zz => match zz with | (i, bs1, h1) => 0 ≤ i ∧ i ≤ wi ∧ CR h1 r (len + i) bs1 ∧ (∀ j, bs1 j = if len ≤ j ∧ j < len + i then bt v (j - len) else bs j) ∧ Fr2 h h1 r) (fun zz => match zz with | (i, bs1, h1) => (wi - i).toNat) ?_ (0, bs, h) ⟨by omega, by omega, ⟨by rw [Int.add_zero]; exact hR, hB, hlt⟩, fun j => by rw [if_neg (by omega)], fun j _ _ => rfl⟩
  rintro ⟨i, bs1, h1⟩ hI ih
  obtain ⟨i1, i2, hC1, i4, i5⟩ := hI
  have hC10 := hC1
  obtain ⟨hR1, hB1, -⟩ := hC1
  obtain ⟨d1, d2⟩ := div2_nn (a := v) (w := i) hv0
  refine g_iload_n (q := 3) rfl rfl dX1_put_2 rfl ?_
  refine g_iload_n (q := 4) rfl rfl dX1_put_3 rfl ?_
  refine g_icmp_ge (t := 47) (q := 7) ⟨by omega, by omega⟩ ⟨by omega, by omega⟩ dX1_put_4 rfl rfl (fun c4 => ?_) (fun c4 => ?_)
  · exact g_vreturn (fun z => NN_f z) (Nat.le_of_ble_eq_true rfl) (Nat.le_of_ble_eq_true rfl) dX1_put_47 rfl (vP_in ⟨bs1, by rw [show wi = i by omega]; exact hC10, fun j => by rw [show wi = i by omega]; exact i4 j, i5⟩)
  · refine g_aload_n (q := 8) rfl rfl dX1_put_7 rfl ?_
    refine g_get (q := 11) fX1_15r (by show _ < 103; omega) hR1 rfl dX1_put_8 rfl ?_
    refine g_sipush (q := 14) (by decide) dX1_put_11 rfl ?_
    refine g_icmp_ge (t := 47) (q := 17) ⟨by omega, by omega⟩ ⟨by omega, by omega⟩ dX1_put_14 rfl rfl (fun c14 => ?_) (fun c14 => ?_)
    · omega
    · refine g_aload_n (q := 18) rfl rfl dX1_put_17 rfl ?_
      refine g_get (q := 21) fX1_9r (by show _ < 103; omega) hR1 rfl dX1_put_18 rfl ?_
      refine g_aload_n (q := 22) rfl rfl dX1_put_21 rfl ?_
      refine g_get (q := 25) fX1_15r (by show _ < 103; omega) hR1 rfl dX1_put_22 rfl ?_
      refine g_iload_n (q := 26) rfl rfl dX1_put_25 rfl ?_
      refine g_iload_n (q := 27) rfl rfl dX1_put_26 rfl ?_
      refine g_ishrV (q := 28) hv0 hv1 i1 (by omega) dX1_put_27 rfl ?_
      refine g_iconst (q := 29) dX1_put_28 rfl ?_
      refine g_iand1 (q := 30) (by omega) (by omega) dX1_put_29 rfl ?_
      refine g_iastore (q := 31) (by show _ < 103; omega) hB1 (by omega) (by omega) (by decide) dX1_put_30 rfl ?_
      refine hp_in (fun hh1 ehh1 => ?_)
      have fc2 : hh1 r = cO 1 [.ref (r + 1), .int (iI (len + i))] := by rw [ehh1, ueh_n (by omega)]; exact hR1
      have fc3 : hh1 (r + 1) = cI 538 (ui bs1 (len + i) ((v / 2 ^ (i : Int).toNat) % 2)) := by rw [ehh1]; exact ueh_s
      refine g_aload_n (q := 32) rfl rfl dX1_put_31 rfl ?_
      refine g_dup (q := 33) rfl dX1_put_32 rfl ?_
      refine g_get (q := 36) fX1_15r (by show _ < 103; omega) fc2 rfl dX1_put_33 rfl ?_
      refine g_iconst (q := 37) dX1_put_36 rfl ?_
      refine g_iadd (q := 38) dX1_put_37 rfl ?_
      refine g_put (q := 41) fX1_15 (by show _ < 103; omega) fc2 (Nat.le_of_ble_eq_true rfl) (fun _ _ => rfl) (fun _ _ => rfl) dX1_put_38 rfl ?_
      refine hp_in (fun hh4 ehh4 => ?_)
      have fc5 : hh4 r = cO 1 [.ref (r + 1), .int (iI ((len + i) + 1))] := by rw [ehh4]; exact ueh_s
      have fc6 : hh4 (r + 1) = cI 538 (ui bs1 (len + i) ((v / 2 ^ (i : Int).toNat) % 2)) := by rw [ehh4, ueh_n (by omega)]; exact fc3
      refine g_iinc (q := 44) (al2 := [some (.ref (r)), some (.int (iI (v))), some (.int (iI (wi))), some (.int (iI (i + 1)))]) rfl (by decide) rfl rfl dX1_put_41 rfl ?_
      refine g_goto (q := 2) dX1_put_44 rfl ?_
      exact ih (i + 1, ui bs1 (len + i) (v / 2 ^ (i : Int).toNat % 2), hh4) ⟨by omega, by omega, ⟨by rw [← Int.add_assoc]; exact fc5, fc6, hlt⟩, fun j => by
        by_cases hj : j = len + i
        · subst hj; rw [ui_s, if_pos (by omega)]; unfold bt; rw [show len + i - len = i by omega]
        · rw [ui_n hj, i4 j]
          by_cases hj2 : len ≤ j ∧ j < len + i
          · rw [if_pos hj2, if_pos (by omega)]
          · rw [if_neg hj2, if_neg (by omega)], fun j j1 j2 => by rw [ehh4, ueh_n (by omega), ehh1, ueh_n (by omega)]; exact i5 j j1 j2⟩ (show (wi - (i + 1)).toNat < (wi - i).toNat by omega)
set_option maxRecDepth 4000 in
theorem t_X1_putHeader (l : Launch) (h : EHp) (r : Nat) (len : Int) (bs : Int → Int) (hR0 : CR h r len bs) (a : Nat) (c : Int) (m : Nat) (ds fa : Int → Int) (hA : PA h a c m ds fa) (hO : LOk c ds) (hFO : FOk c ds m fa) (k : Nat) (hk : k < m) (har : a + 2 < r ∨ r + 1 < a) (h0 : 0 ≤ len) (h1 : len + 26 ≤ 538) : CT l mX1_putHeader 2 0 0 [.ref (r), .ref (a), .int (iI (k))] NN h (vP (fun h' => ∃ bs', CR h' r (len + 26) bs' ∧ (∀ j, bs' j = if len ≤ j ∧ j < len + 26 then hbit ds (pb c ds k) (pb c ds (k + 1)) (j - len) else bs j) ∧ Fr2 h h' r)) := by
  obtain ⟨hR, hB, hlt⟩ := hR0
  have hR0 : CR h r len bs := ⟨hR, hB, hlt⟩
  have hA0 := hA
  obtain ⟨hP, hD, hF, hlta⟩ := hA
  obtain ⟨o1, o2, o3, o4⟩ := id hO
  obtain ⟨k0, k1, k2⟩ := hFO.lt hO hk
  obtain ⟨g1, g2⟩ := hO.wid k0 k1 k2
  have fq := hFO.2.2.2 k hk
  have hm := hFO.1
  generalize hs : pb c ds k = s at *
  generalize he : pb c ds (k + 1) = e at *
  have gs := o3 s k0 (by omega)
  have kr := knd_rng (n := e - s) (u := wd ds s e)
  have q0 := fq 0 (by decide) (by decide)
  have q1 := fq 1 (by decide) (by decide)
  have q2 := fq 2 (by decide) (by decide)
  have q3 := fq 3 (by decide) (by decide)
  have q5 := fq 5 (by decide) (by decide)
  have ewd : wd ds s e = ds (e - 1) - ds s + 1 := rfl
  refine CT.of (by decide) (Nat.le_of_ble_eq_true rfl) ?_
  refine g_al (al2 := [some (.ref (r)), some (.ref (a)), some (.int (iI (k)))]) rfl ?_
  refine g_aload_n (q := 1) rfl rfl dX1_putHeader_0 rfl ?_
  refine g_aload_n (q := 2) rfl rfl dX1_putHeader_1 rfl ?_
  refine g_iload_n (q := 3) rfl rfl dX1_putHeader_2 rfl ?_
  refine g_iconst (q := 4) dX1_putHeader_3 rfl ?_
  refine g_Vr (q := 7) (d' := 0) (i := a) (av := [.int (iI (k)), .int (iI (0))]) (st := [.ref (r)]) (v := .int (iI (knd (e - s) (wd ds s e)))) kvX1_24 (by have := t_X4_factOf l h a c m ds fa hA0 k 0 (by omega) (by omega) (by decide) (by decide); rw [q0] at this; exact this) (by show _ < 103; omega) hP rfl (Nat.le_of_ble_eq_true rfl) ⟨(Nat.le_of_ble_eq_true rfl), (Nat.le_of_ble_eq_true rfl)⟩ ⟨(Nat.le_of_ble_eq_true rfl), (Nat.le_of_ble_eq_true rfl)⟩ rfl rfl dX1_putHeader_4 rfl ?_
  refine g_iconst (q := 8) dX1_putHeader_7 rfl ?_
  refine g_Vv (q := 11) (d' := 0) (i := r) (av := [.int (iI (knd (e - s) (wd ds s e))), .int (iI (2))]) (st := []) kvX1_42 (t_X1_put l h r (len) bs hR0 (knd (e - s) (wd ds s e)) 2 (by omega) (by omega) (by omega) (by decide) (by omega) (Or.inr (by decide))) (by show _ < 103; omega) hR rfl (Nat.le_of_ble_eq_true rfl) ⟨(Nat.le_of_ble_eq_true rfl), (Nat.le_of_ble_eq_true rfl)⟩ ⟨(Nat.le_of_ble_eq_true rfl), (Nat.le_of_ble_eq_true rfl)⟩ rfl rfl dX1_putHeader_8 rfl (fun h1 hp1 => ?_)
  obtain ⟨bs1, hC1, b1, fr1⟩ := hp1
  have hA1 : PA h1 a c m ds fa := ⟨by rw [fr1 _ (by omega) (by omega)]; exact hA0.1, by rw [fr1 _ (by omega) (by omega)]; exact hA0.2.1, by rw [fr1 _ (by omega) (by omega)]; exact hA0.2.2.1, hlta⟩
  obtain ⟨hP1, hD1, hF1, -⟩ := id hA1
  obtain ⟨hR1, hB1, -⟩ := id hC1
  refine g_aload_n (q := 12) rfl rfl dX1_putHeader_11 rfl ?_
  refine g_aload_n (q := 13) rfl rfl dX1_putHeader_12 rfl ?_
  refine g_iload_n (q := 14) rfl rfl dX1_putHeader_13 rfl ?_
  refine g_iconst (q := 15) dX1_putHeader_14 rfl ?_
  refine g_Vr (q := 18) (d' := 0) (i := a) (av := [.int (iI (k)), .int (iI (1))]) (st := [.ref (r)]) (v := .int (iI (e - s))) kvX1_24 (by have := t_X4_factOf l h1 a c m ds fa hA1 k 1 (by omega) (by omega) (by decide) (by decide); rw [q1] at this; exact this) (by show _ < 103; omega) hP1 rfl (Nat.le_of_ble_eq_true rfl) ⟨(Nat.le_of_ble_eq_true rfl), (Nat.le_of_ble_eq_true rfl)⟩ ⟨(Nat.le_of_ble_eq_true rfl), (Nat.le_of_ble_eq_true rfl)⟩ rfl rfl dX1_putHeader_15 rfl ?_
  refine g_iconst (q := 19) dX1_putHeader_18 rfl ?_
  refine g_isub (q := 20) dX1_putHeader_19 rfl ?_
  refine g_bipush (q := 22) (by decide) dX1_putHeader_20 rfl ?_
  refine g_Vv (q := 25) (d' := 0) (i := r) (av := [.int (iI ((e - s) - 1)), .int (iI (6))]) (st := []) kvX1_42 (t_X1_put l h1 r (len + 2) bs1 hC1 ((e - s) - 1) 6 (by omega) (by omega) (by omega) (by decide) (by omega) (Or.inr (by decide))) (by show _ < 103; omega) hR1 rfl (Nat.le_of_ble_eq_true rfl) ⟨(Nat.le_of_ble_eq_true rfl), (Nat.le_of_ble_eq_true rfl)⟩ ⟨(Nat.le_of_ble_eq_true rfl), (Nat.le_of_ble_eq_true rfl)⟩ rfl rfl dX1_putHeader_22 rfl (fun h2 hp2 => ?_)
  obtain ⟨bs2, hC2, b2, fr2⟩ := hp2
  have hA2 : PA h2 a c m ds fa := ⟨by rw [fr2 _ (by omega) (by omega)]; exact hA1.1, by rw [fr2 _ (by omega) (by omega)]; exact hA1.2.1, by rw [fr2 _ (by omega) (by omega)]; exact hA1.2.2.1, hlta⟩
  obtain ⟨hP2, hD2, hF2, -⟩ := id hA2
  obtain ⟨hR2, hB2, -⟩ := id hC2
  refine g_aload_n (q := 26) rfl rfl dX1_putHeader_25 rfl ?_
  refine g_aload_n (q := 27) rfl rfl dX1_putHeader_26 rfl ?_
  refine g_iload_n (q := 28) rfl rfl dX1_putHeader_27 rfl ?_
  refine g_iconst (q := 29) dX1_putHeader_28 rfl ?_
  refine g_Vr (q := 32) (d' := 0) (i := a) (av := [.int (iI (k)), .int (iI (2))]) (st := [.ref (r)]) (v := .int (iI (ds s))) kvX1_24 (by have := t_X4_factOf l h2 a c m ds fa hA2 k 2 (by omega) (by omega) (by decide) (by decide); rw [q2] at this; exact this) (by show _ < 103; omega) hP2 rfl (Nat.le_of_ble_eq_true rfl) ⟨(Nat.le_of_ble_eq_true rfl), (Nat.le_of_ble_eq_true rfl)⟩ ⟨(Nat.le_of_ble_eq_true rfl), (Nat.le_of_ble_eq_true rfl)⟩ rfl rfl dX1_putHeader_29 rfl ?_
  refine g_bipush (q := 34) (by decide) dX1_putHeader_32 rfl ?_
  refine g_Vv (q := 37) (d' := 0) (i := r) (av := [.int (iI (ds s)), .int (iI (9))]) (st := []) kvX1_42 (t_X1_put l h2 r (len + 2 + 6) bs2 hC2 (ds s) 9 (by omega) (by omega) (by omega) (by decide) (by omega) (Or.inr (by decide))) (by show _ < 103; omega) hR2 rfl (Nat.le_of_ble_eq_true rfl) ⟨(Nat.le_of_ble_eq_true rfl), (Nat.le_of_ble_eq_true rfl)⟩ ⟨(Nat.le_of_ble_eq_true rfl), (Nat.le_of_ble_eq_true rfl)⟩ rfl rfl dX1_putHeader_34 rfl (fun h3 hp3 => ?_)
  obtain ⟨bs3, hC3, b3, fr3⟩ := hp3
  have hA3 : PA h3 a c m ds fa := ⟨by rw [fr3 _ (by omega) (by omega)]; exact hA2.1, by rw [fr3 _ (by omega) (by omega)]; exact hA2.2.1, by rw [fr3 _ (by omega) (by omega)]; exact hA2.2.2.1, hlta⟩
  obtain ⟨hP3, hD3, hF3, -⟩ := id hA3
  obtain ⟨hR3, hB3, -⟩ := id hC3
  refine g_aload_n (q := 38) rfl rfl dX1_putHeader_37 rfl ?_
  refine g_aload_n (q := 39) rfl rfl dX1_putHeader_38 rfl ?_
  refine g_iload_n (q := 40) rfl rfl dX1_putHeader_39 rfl ?_
  refine g_Vr (q := 43) (d' := 1) (i := a) (av := [.int (iI (k))]) (st := [.ref (r)]) (v := .int (iI (wd ds s e))) kvX1_46 (by have := t_X4_widthOf l h3 a c m ds fa hA3 k (by omega) (by omega); rw [q3, q2] at this; exact this) (by show _ < 103; omega) hP3 rfl (Nat.le_of_ble_eq_true rfl) ⟨(Nat.le_of_ble_eq_true rfl), (Nat.le_of_ble_eq_true rfl)⟩ ⟨(Nat.le_of_ble_eq_true rfl), (Nat.le_of_ble_eq_true rfl)⟩ rfl rfl dX1_putHeader_40 rfl ?_
  refine g_iconst (q := 44) dX1_putHeader_43 rfl ?_
  refine g_isub (q := 45) dX1_putHeader_44 rfl ?_
  refine g_bipush (q := 47) (by decide) dX1_putHeader_45 rfl ?_
  refine g_Vv (q := 50) (d' := 0) (i := r) (av := [.int (iI ((wd ds s e) - 1)), .int (iI (9))]) (st := []) kvX1_42 (t_X1_put l h3 r (len + 2 + 6 + 9) bs3 hC3 ((wd ds s e) - 1) 9 (by omega) (by omega) (by omega) (by decide) (by omega) (Or.inr (by decide))) (by show _ < 103; omega) hR3 rfl (Nat.le_of_ble_eq_true rfl) ⟨(Nat.le_of_ble_eq_true rfl), (Nat.le_of_ble_eq_true rfl)⟩ ⟨(Nat.le_of_ble_eq_true rfl), (Nat.le_of_ble_eq_true rfl)⟩ rfl rfl dX1_putHeader_47 rfl (fun h4 hp4 => ?_)
  obtain ⟨bs4, hC4, b4, fr4⟩ := hp4
  have hA4 : PA h4 a c m ds fa := ⟨by rw [fr4 _ (by omega) (by omega)]; exact hA3.1, by rw [fr4 _ (by omega) (by omega)]; exact hA3.2.1, by rw [fr4 _ (by omega) (by omega)]; exact hA3.2.2.1, hlta⟩
  obtain ⟨hP4, hD4, hF4, -⟩ := id hA4
  obtain ⟨hR4, hB4, -⟩ := id hC4
  exact g_vreturn (fun z => NN_f z) (Nat.le_of_ble_eq_true rfl) (Nat.le_of_ble_eq_true rfl) dX1_putHeader_50 rfl (vP_in ⟨bs4, by rw [show len + 26 = len + 2 + 6 + 9 + 9 by omega]; exact hC4, fun j => by
      rw [b4 j]
      unfold hbit
      by_cases c1 : len ≤ j ∧ j < len + 26
      · rw [if_pos c1]
        by_cases d4 : len + 2 + 6 + 9 ≤ j
        · rw [if_pos (by omega), if_neg (by omega), if_neg (by omega), if_neg (by omega), show j - (len + 2 + 6 + 9) = j - len - 17 by omega]
        · rw [if_neg (by omega), b3 j]
          by_cases d3 : len + 2 + 6 ≤ j
          · rw [if_pos (by omega), if_neg (by omega), if_neg (by omega), if_pos (by omega), show j - (len + 2 + 6) = j - len - 8 by omega]
          · rw [if_neg (by omega), b2 j]
            by_cases d2 : len + 2 ≤ j
            · rw [if_pos (by omega), if_neg (by omega), if_pos (by omega), show j - (len + 2) = j - len - 2 by omega]
            · rw [if_neg (by omega), b1 j, if_pos (by omega), if_pos (by omega)]
      · rw [if_neg c1, if_neg (by omega), b3 j, if_neg (by omega), b2 j, if_neg (by omega), b1 j, if_neg (by omega)], fun j j1 j2 => by rw [fr4 j j1 j2, fr3 j j1 j2, fr2 j j1 j2, fr1 j j1 j2]⟩)
