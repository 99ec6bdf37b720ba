/-! ===== CodeRow: bodies ===== -/
set_option maxRecDepth 4000 in
theorem t_X1_putBitmap (l : Launch) (h : EHp) (r : Nat) (len : Int) (bs : Int → Int) (hR0 : CR h r len bs) (a : Nat) (c : Int) (m : Nat) (ds fa : Int → Int) (hA : PA h a c m ds fa) (hO : LOk c ds) (hFO : FOk c ds m fa) (k : Nat) (hk : k < m) (har : a + 2 < r ∨ r + 1 < a) (h0 : 0 ≤ len) (h1 : len + wd ds (pb c ds k) (pb c ds (k + 1)) ≤ 538) : CT l mX1_putBitmap 2 0 0 [.ref (r), .ref (a), .int (iI (k)), .int (iI (pb c ds k))] NN h (vP (fun h' => ∃ bs', CR h' r (len + wd ds (pb c ds k) (pb c ds (k + 1))) bs' ∧ (∀ j, bs' j = if len ≤ j ∧ j < len + wd ds (pb c ds k) (pb c ds (k + 1)) then bmb ds (pb c ds k) (pb c ds (k + 1)) (j - len) else bs j) ∧ Fr2 h h' r)) := by
  obtain ⟨hR, hB, hlt⟩ := hR0
  have hR0 : CR h r len bs := ⟨hR, hB, hlt⟩
  have hA0 := hA
  obtain ⟨hP, hD, hF, hlta⟩ := hA
  obtain ⟨o1, o2, o3, o4⟩ := id hO
  obtain ⟨k0, k1, k2⟩ := hFO.lt hO hk
  obtain ⟨g1, g2⟩ := hO.wid k0 k1 k2
  have fq := hFO.2.2.2 k hk
  have hm := hFO.1
  generalize hs : pb c ds k = s at *
  generalize he : pb c ds (k + 1) = e at *
  have gs := o3 s k0 (by omega)
  have kr := knd_rng (n := e - s) (u := wd ds s e)
  have q0 := fq 0 (by decide) (by decide)
  have q1 := fq 1 (by decide) (by decide)
  have q2 := fq 2 (by decide) (by decide)
  have q3 := fq 3 (by decide) (by decide)
  have q5 := fq 5 (by decide) (by decide)
  have ewd : wd ds s e = ds (e - 1) - ds s + 1 := rfl
  refine CT.of (by decide) (Nat.le_of_ble_eq_true rfl) ?_
  refine g_al (al2 := [some (.ref (r)), some (.ref (a)), some (.int (iI (k))), some (.int (iI (s))), none, none, none, none]) rfl ?_
  refine g_aload_n (q := 1) rfl rfl dX1_putBitmap_0 rfl ?_
  refine g_get (q := 4) fX1_15r (by show _ < 103; omega) hR rfl dX1_putBitmap_1 rfl ?_
  refine g_istore (q := 6) (al2 := [some (.ref (r)), some (.ref (a)), some (.int (iI (k))), some (.int (iI (s))), some (.int (iI (len))), none, none, none]) (by decide) rfl rfl dX1_putBitmap_4 rfl ?_
  refine g_aload_n (q := 7) rfl rfl dX1_putBitmap_6 rfl ?_
  refine g_iload_n (q := 8) rfl rfl dX1_putBitmap_7 rfl ?_
  refine g_iconst (q := 9) dX1_putBitmap_8 rfl ?_
  refine g_Vr (q := 12) (d' := 0) (i := a) (av := [.int (iI (k)), .int (iI (2))]) (st := []) (v := .int (iI (ds s))) kvX1_24 (by have := t_X4_factOf l h a c m ds fa hA0 k 2 (by omega) (by omega) (by decide) (by decide); rw [q2] at this; exact this) (by show _ < 103; omega) hP rfl (Nat.le_of_ble_eq_true rfl) ⟨(Nat.le_of_ble_eq_true rfl), (Nat.le_of_ble_eq_true rfl)⟩ ⟨(Nat.le_of_ble_eq_true rfl), (Nat.le_of_ble_eq_true rfl)⟩ rfl rfl dX1_putBitmap_9 rfl ?_
  refine g_istore (q := 14) (al2 := [some (.ref (r)), some (.ref (a)), some (.int (iI (k))), some (.int (iI (s))), some (.int (iI (len))), some (.int (iI (ds s))), none, none]) (by decide) rfl rfl dX1_putBitmap_12 rfl ?_
  refine g_aload_n (q := 15) rfl rfl dX1_putBitmap_14 rfl ?_
  refine g_iload_n (q := 16) rfl rfl dX1_putBitmap_15 rfl ?_
  refine g_iconst (q := 17) dX1_putBitmap_16 rfl ?_
  refine g_Vr (q := 20) (d' := 0) (i := a) (av := [.int (iI (k)), .int (iI (1))]) (st := []) (v := .int (iI (e - s))) kvX1_24 (by have := t_X4_factOf l h a c m ds fa hA0 k 1 (by omega) (by omega) (by decide) (by decide); rw [q1] at this; exact this) (by show _ < 103; omega) hP rfl (Nat.le_of_ble_eq_true rfl) ⟨(Nat.le_of_ble_eq_true rfl), (Nat.le_of_ble_eq_true rfl)⟩ ⟨(Nat.le_of_ble_eq_true rfl), (Nat.le_of_ble_eq_true rfl)⟩ rfl rfl dX1_putBitmap_17 rfl ?_
  refine g_istore (q := 22) (al2 := [some (.ref (r)), some (.ref (a)), some (.int (iI (k))), some (.int (iI (s))), some (.int (iI (len))), some (.int (iI (ds s))), some (.int (iI (e - s))), none]) (by decide) rfl rfl dX1_putBitmap_20 rfl ?_
  refine g_aload_n (q := 23) rfl rfl dX1_putBitmap_22 rfl ?_
  refine g_iconst (q := 24) dX1_putBitmap_23 rfl ?_
  refine g_aload_n (q := 25) rfl rfl dX1_putBitmap_24 rfl ?_
  refine g_iload_n (q := 26) rfl rfl dX1_putBitmap_25 rfl ?_
  refine g_Vr (q := 29) (d' := 1) (i := a) (av := [.int (iI (k))]) (st := [.int (iI (0)), .ref (r)]) (v := .int (iI (wd ds s e))) kvX1_46 (by have := t_X4_widthOf l h a c m ds fa hA0 k (by omega) (by omega); rw [q3, q2] at this; exact this) (by show _ < 103; omega) hP rfl (Nat.le_of_ble_eq_true rfl) ⟨(Nat.le_of_ble_eq_true rfl), (Nat.le_of_ble_eq_true rfl)⟩ ⟨(Nat.le_of_ble_eq_true rfl), (Nat.le_of_ble_eq_true rfl)⟩ rfl rfl dX1_putBitmap_26 rfl ?_
  refine g_Vv (q := 32) (d' := 0) (i := r) (av := [.int (iI (0)), .int (iI (wd ds s e))]) (st := []) kvX1_42 (t_X1_put l h r len bs hR0 0 (wd ds s e) h0 (by decide) (by decide) (by omega) h1 (Or.inl rfl)) (by show _ < 103; omega) hR rfl (Nat.le_of_ble_eq_true rfl) ⟨(Nat.le_of_ble_eq_true rfl), (Nat.le_of_ble_eq_true rfl)⟩ ⟨(Nat.le_of_ble_eq_true rfl), (Nat.le_of_ble_eq_true rfl)⟩ rfl rfl dX1_putBitmap_29 rfl (fun h1 hp1 => ?_)
  obtain ⟨bs1, hC1, b1, fr1⟩ := hp1
  have hA1 : PA h1 a c m ds fa := ⟨by rw [fr1 _ (by omega) (by omega)]; exact hP, by rw [fr1 _ (by omega) (by omega)]; exact hD, by rw [fr1 _ (by omega) (by omega)]; exact hF, hlta⟩
  obtain ⟨hP1, hD1, hF1, -⟩ := id hA1
  obtain ⟨hR1, hB1, -⟩ := id hC1
  refine g_iconst (q := 33) dX1_putBitmap_32 rfl ?_
  refine g_istore (q := 35) (al2 := [some (.ref (r)), some (.ref (a)), some (.int (iI (k))), some (.int (iI (s))), some (.int (iI (len))), some (.int (iI (ds s))), some (.int (iI (e - s))), some (.int (iI (0)))]) (by decide) rfl rfl dX1_putBitmap_33 rfl ?_
  refine loopG (σ := Int × (Int → Int) × EHp) (P := fun zz => match zz with | (i, bs2, h2) => G l noX mX1_putBitmap 2 0 0 (vP (fun h' => ∃ bs', CR h' r (len + wd ds (s) (e)) bs' ∧ (∀ j, bs' j = if len ≤ j ∧ j < len + wd ds (s) (e) then bmb ds (s) (e) (j - len) else bs j) ∧ Fr2 h h' r)) 0 0 35 [some (.ref (r)), some (.ref (a)), some (.int (iI (k))), some (.int (iI (s))), some (.int (iI (len))), some (.int (iI (ds s))), some (.int (iI (e - s))), some (.int (iI (i)))] [] NN h2) (I := fun zz => match zz with | (i, bs2, h2) => 0 ≤ i ∧ i ≤ e - s ∧ CR h2 r (len + wd ds s e) bs2 ∧ (∀ j, bs2 j = if len ≤ j ∧ j < len + wd ds s e then ind (∃ y, s ≤ y ∧ y < s + i ∧ ds y - ds s = j - len) else bs j) ∧ Fr2 h h2 r) (fun zz => match zz with | (i, bs2, h2) => (e - s - i).toNat) ?_ (0, bs1, h1) ⟨by omega, by omega, hC1, fun j => by
    rw [b1 j]
    by_cases z : len ≤ j ∧ j < len + wd ds s e
    · rw [if_pos z, if_pos z, ind_f (by rintro ⟨y, y1, y2, -⟩; omega)]; unfold bt; rw [Int.zero_ediv]; rfl
    · rw [if_neg z, if_neg z], fr1⟩
  rintro ⟨i, bs2, h2⟩ hI ih
  obtain ⟨i1, i2, hC2, i4, fr2⟩ := hI
  have hA2 : PA h2 a c m ds fa := ⟨by rw [fr2 _ (by omega) (by omega)]; exact hP, by rw [fr2 _ (by omega) (by omega)]; exact hD, by rw [fr2 _ (by omega) (by omega)]; exact hF, hlta⟩
  obtain ⟨hP2, hD2, hF2, -⟩ := id hA2
  obtain ⟨hR2, hB2, -⟩ := id hC2
  refine g_iload (q := 37) rfl dX1_putBitmap_35 rfl ?_
  refine g_iload (q := 39) rfl dX1_putBitmap_37 rfl ?_
  refine g_icmp_ge (t := 66) (q := 42) ⟨by omega, by omega⟩ ⟨by omega, by omega⟩ dX1_putBitmap_39 rfl rfl (fun c39 => ?_) (fun c39 => ?_)
  · have ei : i = e - s := by omega
    exact g_vreturn (fun z => NN_f z) (Nat.le_of_ble_eq_true rfl) (Nat.le_of_ble_eq_true rfl) dX1_putBitmap_66 rfl (vP_in ⟨bs2, hC2, fun j => by
        rw [i4 j]
        by_cases z : len ≤ j ∧ j < len + wd ds s e
        · rw [if_pos z, if_pos z]; exact ind_congr (by rw [ei, show s + (e - s) = e by omega])
        · rw [if_neg z, if_neg z], fr2⟩)
  · have gi := o3 (s + i) (by omega) (by omega)
    have gm : ds s ≤ ds (s + i) ∧ ds (s + i) ≤ ds (e - 1) := by
      constructor
      · by_cases z : i = 0
        · rw [z, Int.add_zero]; omega
        · exact Int.le_of_lt (o4 s (s + i) k0 (by omega) (by omega))
      · by_cases z : s + i = e - 1
        · rw [z]; omega
        · exact Int.le_of_lt (o4 (s + i) (e - 1) (by omega) (by omega) (by omega))
    have dd := dA_in (ds := ds) (show 0 ≤ s + i by omega) (show s + i < c by omega)
    refine g_aload_n (q := 43) rfl rfl dX1_putBitmap_42 rfl ?_
    refine g_iload (q := 45) rfl dX1_putBitmap_43 rfl ?_
    refine g_aload_n (q := 46) rfl rfl dX1_putBitmap_45 rfl ?_
    refine g_iload_n (q := 47) rfl rfl dX1_putBitmap_46 rfl ?_
    refine g_iload (q := 49) rfl dX1_putBitmap_47 rfl ?_
    refine g_iadd (q := 50) dX1_putBitmap_49 rfl ?_
    refine g_Vr (q := 53) (d' := 0) (i := a) (av := [.int (iI (s + i))]) (st := [.int (iI (len)), .ref (r)]) (v := .int (iI (ds (s + i)))) kvX1_50 (by have := t_X4_documentAt l h2 a c m ds fa hA2 hO (s + i) ⟨by omega, by omega⟩; rw [dd] at this; exact this) (by show _ < 103; omega) hP2 rfl (Nat.le_of_ble_eq_true rfl) ⟨(Nat.le_of_ble_eq_true rfl), (Nat.le_of_ble_eq_true rfl)⟩ ⟨(Nat.le_of_ble_eq_true rfl), (Nat.le_of_ble_eq_true rfl)⟩ rfl rfl dX1_putBitmap_50 rfl ?_
    refine g_iadd (q := 54) dX1_putBitmap_53 rfl ?_
    refine g_iload (q := 56) rfl dX1_putBitmap_54 rfl ?_
    refine g_isub (q := 57) dX1_putBitmap_56 rfl ?_
    refine g_Vv (q := 60) (d' := 0) (i := r) (av := [.int (iI ((len + (ds (s + i))) - (ds s)))]) (st := []) kvX1_53 (t_X1_setBit l h2 r (len + wd ds s e) bs2 hC2 (len + ds (s + i) - ds s) (by omega) (by omega) (by omega)) (by show _ < 103; omega) hR2 rfl (Nat.le_of_ble_eq_true rfl) ⟨(Nat.le_of_ble_eq_true rfl), (Nat.le_of_ble_eq_true rfl)⟩ ⟨(Nat.le_of_ble_eq_true rfl), (Nat.le_of_ble_eq_true rfl)⟩ rfl rfl dX1_putBitmap_57 rfl (fun h3 hp3 => ?_)
    obtain ⟨hC3, fr3⟩ := hp3
    refine g_iinc (q := 63) (al2 := [some (.ref (r)), some (.ref (a)), some (.int (iI (k))), some (.int (iI (s))), some (.int (iI (len))), some (.int (iI (ds s))), some (.int (iI (e - s))), some (.int (iI (i + 1)))]) rfl (by decide) rfl rfl dX1_putBitmap_60 rfl ?_
    refine g_goto (q := 35) dX1_putBitmap_63 rfl ?_
    exact ih (i + 1, ui bs2 (len + ds (s + i) - ds s) 1, h3) ⟨by omega, by omega, hC3, fun j => by
      by_cases hj : j = len + ds (s + i) - ds s
      · subst hj
        rw [ui_s, if_pos (by omega), ind_t ⟨s + i, by omega, by omega, by omega⟩]
      · rw [ui_n hj, i4 j]
        by_cases z : len ≤ j ∧ j < len + wd ds s e
        · rw [if_pos z, if_pos z]
          refine ind_congr ⟨fun ⟨y, y1, y2, y3⟩ => ⟨y, y1, by omega, y3⟩, fun ⟨y, y1, y2, y3⟩ => ⟨y, y1, ?_, y3⟩⟩
          by_cases zy : y = s + i
          · subst zy; omega
          · omega
        · rw [if_neg z, if_neg z], fun j j1 j2 => by rw [fr3 j j1 j2]; exact fr2 j j1 j2⟩ (show (e - s - (i + 1)).toNat < (e - s - i).toNat by omega)
set_option maxRecDepth 4000 in
theorem t_X1_putHighParts (l : Launch) (h : EHp) (r : Nat) (len : Int) (bs : Int → Int) (hR0 : CR h r len bs) (a : Nat) (c : Int) (m : Nat) (ds fa : Int → Int) (hA : PA h a c m ds fa) (hO : LOk c ds) (hFO : FOk c ds m fa) (k : Nat) (hk : k < m) (har : a + 2 < r ∨ r + 1 < a) (hkd : knd (pb c ds (k + 1) - pb c ds k) (wd ds (pb c ds k) (pb c ds (k + 1))) = 2) (h0 : 0 ≤ len) (h1 : len + hiL (pb c ds (k + 1) - pb c ds k) (wd ds (pb c ds k) (pb c ds (k + 1))) (lb (pb c ds (k + 1) - pb c ds k) (wd ds (pb c ds k) (pb c ds (k + 1)))) ≤ 538) : CT l mX1_putHighParts 2 0 0 [.ref (r), .ref (a), .int (iI (k)), .int (iI (pb c ds k))] NN h (vP (fun h' => ∃ bs', CR h' r (len + hiL (pb c ds (k + 1) - pb c ds k) (wd ds (pb c ds k) (pb c ds (k + 1))) (lb (pb c ds (k + 1) - pb c ds k) (wd ds (pb c ds k) (pb c ds (k + 1))))) bs' ∧ (∀ j, bs' j = if len ≤ j ∧ j < len + hiL (pb c ds (k + 1) - pb c ds k) (wd ds (pb c ds k) (pb c ds (k + 1))) (lb (pb c ds (k + 1) - pb c ds k) (wd ds (pb c ds k) (pb c ds (k + 1)))) then hib ds (pb c ds k) (pb c ds (k + 1)) (lb (pb c ds (k + 1) - pb c ds k) (wd ds (pb c ds k) (pb c ds (k + 1)))) (j - len) else bs j) ∧ Fr2 h h' r)) := by
  obtain ⟨hR, hB, hlt⟩ := hR0
  have hR0 : CR h r len bs := ⟨hR, hB, hlt⟩
  have hA0 := hA
  obtain ⟨hP, hD, hF, hlta⟩ := hA
  obtain ⟨o1, o2, o3, o4⟩ := id hO
  obtain ⟨k0, k1, k2⟩ := hFO.lt hO hk
  obtain ⟨g1, g2⟩ := hO.wid k0 k1 k2
  have fq := hFO.2.2.2 k hk
  have hm := hFO.1
  generalize hs : pb c ds k = s at *
  generalize he : pb c ds (k + 1) = e at *
  have gs := o3 s k0 (by omega)
  have kr := knd_rng (n := e - s) (u := wd ds s e)
  have q0 := fq 0 (by decide) (by decide)
  have q1 := fq 1 (by decide) (by decide)
  have q2 := fq 2 (by decide) (by decide)
  have q3 := fq 3 (by decide) (by decide)
  have q5 := fq 5 (by decide) (by decide)
  have ewd : wd ds s e = ds (e - 1) - ds s + 1 := rfl
  refine CT.of (by decide) (Nat.le_of_ble_eq_true rfl) ?_
  refine g_al (al2 := [some (.ref (r)), some (.ref (a)), some (.int (iI (k))), some (.int (iI (s))), none, none, none, none, none]) rfl ?_
  have q5 : fa ((k : Int) * 6 + 5) = lb (e - s) (wd ds s e) := by rw [q5]; show (if knd (e - s) (wd ds s e) = 2 then _ else _) = _; rw [if_pos hkd]; rfl
  obtain ⟨l1, l2, l3, l4⟩ := lb_spec (n := e - s) (u := wd ds s e) (by omega) (by omega) (by omega)
  obtain ⟨z1, z2⟩ := div2_nn (a := wd ds s e - 1) (w := lb (e - s) (wd ds s e)) (by omega)
  have ehl : hiL (e - s) (wd ds s e) (lb (e - s) (wd ds s e)) = (e - s) + (wd ds s e - 1) / 2 ^ (lb (e - s) (wd ds s e)).toNat + 1 := rfl
  refine g_aload_n (q := 1) rfl rfl dX1_putHighParts_0 rfl ?_
  refine g_get (q := 4) fX1_15r (by show _ < 103; omega) hR rfl dX1_putHighParts_1 rfl ?_
  refine g_istore (q := 6) (al2 := [some (.ref (r)), some (.ref (a)), some (.int (iI (k))), some (.int (iI (s))), some (.int (iI (len))), none, none, none, none]) (by decide) rfl rfl dX1_putHighParts_4 rfl ?_
  refine g_aload_n (q := 7) rfl rfl dX1_putHighParts_6 rfl ?_
  refine g_iload_n (q := 8) rfl rfl dX1_putHighParts_7 rfl ?_
  refine g_iconst (q := 9) dX1_putHighParts_8 rfl ?_
  refine g_Vr (q := 12) (d' := 0) (i := a) (av := [.int (iI (k)), .int (iI (2))]) (st := []) (v := .int (iI (ds s))) kvX1_24 (by have := t_X4_factOf l h a c m ds fa hA0 k 2 (by omega) (by omega) (by decide) (by decide); rw [q2] at this; exact this) (by show _ < 103; omega) hP rfl (Nat.le_of_ble_eq_true rfl) ⟨(Nat.le_of_ble_eq_true rfl), (Nat.le_of_ble_eq_true rfl)⟩ ⟨(Nat.le_of_ble_eq_true rfl), (Nat.le_of_ble_eq_true rfl)⟩ rfl rfl dX1_putHighParts_9 rfl ?_
  refine g_istore (q := 14) (al2 := [some (.ref (r)), some (.ref (a)), some (.int (iI (k))), some (.int (iI (s))), some (.int (iI (len))), some (.int (iI (ds s))), none, none, none]) (by decide) rfl rfl dX1_putHighParts_12 rfl ?_
  refine g_aload_n (q := 15) rfl rfl dX1_putHighParts_14 rfl ?_
  refine g_iload_n (q := 16) rfl rfl dX1_putHighParts_15 rfl ?_
  refine g_iconst (q := 17) dX1_putHighParts_16 rfl ?_
  refine g_Vr (q := 20) (d' := 0) (i := a) (av := [.int (iI (k)), .int (iI (1))]) (st := []) (v := .int (iI (e - s))) kvX1_24 (by have := t_X4_factOf l h a c m ds fa hA0 k 1 (by omega) (by omega) (by decide) (by decide); rw [q1] at this; exact this) (by show _ < 103; omega) hP rfl (Nat.le_of_ble_eq_true rfl) ⟨(Nat.le_of_ble_eq_true rfl), (Nat.le_of_ble_eq_true rfl)⟩ ⟨(Nat.le_of_ble_eq_true rfl), (Nat.le_of_ble_eq_true rfl)⟩ rfl rfl dX1_putHighParts_17 rfl ?_
  refine g_istore (q := 22) (al2 := [some (.ref (r)), some (.ref (a)), some (.int (iI (k))), some (.int (iI (s))), some (.int (iI (len))), some (.int (iI (ds s))), some (.int (iI (e - s))), none, none]) (by decide) rfl rfl dX1_putHighParts_20 rfl ?_
  refine g_aload_n (q := 23) rfl rfl dX1_putHighParts_22 rfl ?_
  refine g_iload_n (q := 24) rfl rfl dX1_putHighParts_23 rfl ?_
  refine g_iconst (q := 25) dX1_putHighParts_24 rfl ?_
  refine g_Vr (q := 28) (d' := 0) (i := a) (av := [.int (iI (k)), .int (iI (5))]) (st := []) (v := .int (iI (lb (e - s) (wd ds s e)))) kvX1_24 (by have := t_X4_factOf l h a c m ds fa hA0 k 5 (by omega) (by omega) (by decide) (by decide); rw [q5] at this; exact this) (by show _ < 103; omega) hP rfl (Nat.le_of_ble_eq_true rfl) ⟨(Nat.le_of_ble_eq_true rfl), (Nat.le_of_ble_eq_true rfl)⟩ ⟨(Nat.le_of_ble_eq_true rfl), (Nat.le_of_ble_eq_true rfl)⟩ rfl rfl dX1_putHighParts_25 rfl ?_
  refine g_istore (q := 30) (al2 := [some (.ref (r)), some (.ref (a)), some (.int (iI (k))), some (.int (iI (s))), some (.int (iI (len))), some (.int (iI (ds s))), some (.int (iI (e - s))), some (.int (iI (lb (e - s) (wd ds s e)))), none]) (by decide) rfl rfl dX1_putHighParts_28 rfl ?_
  refine g_aload_n (q := 31) rfl rfl dX1_putHighParts_30 rfl ?_
  refine g_iconst (q := 32) dX1_putHighParts_31 rfl ?_
  refine g_iload (q := 34) rfl dX1_putHighParts_32 rfl ?_
  refine g_aload_n (q := 35) rfl rfl dX1_putHighParts_34 rfl ?_
  refine g_iload_n (q := 36) rfl rfl dX1_putHighParts_35 rfl ?_
  refine g_Vr (q := 39) (d' := 1) (i := a) (av := [.int (iI (k))]) (st := [.int (iI (e - s)), .int (iI (0)), .ref (r)]) (v := .int (iI (wd ds s e))) kvX1_46 (by have := t_X4_widthOf l h a c m ds fa hA0 k (by omega) (by omega); rw [q3, q2] at this; exact this) (by show _ < 103; omega) hP rfl (Nat.le_of_ble_eq_true rfl) ⟨(Nat.le_of_ble_eq_true rfl), (Nat.le_of_ble_eq_true rfl)⟩ ⟨(Nat.le_of_ble_eq_true rfl), (Nat.le_of_ble_eq_true rfl)⟩ rfl rfl dX1_putHighParts_36 rfl ?_
  refine g_iload (q := 41) rfl dX1_putHighParts_39 rfl ?_
  refine g_Sr (q := 44) (d' := 0) (av := [.int (iI (e - s)), .int (iI (wd ds s e)), .int (iI (lb (e - s) (wd ds s e)))]) (st := [.int (iI (0)), .ref (r)]) (v := .int (iI (hiL (e - s) (wd ds s e) (lb (e - s) (wd ds s e))))) ksX1_57 (t_X5_highLength l (e - s) (wd ds s e) (lb (e - s) (wd ds s e)) (by omega) (by omega) (by omega) l1 l2 h) rfl (Nat.le_of_ble_eq_true rfl) ⟨(Nat.le_of_ble_eq_true rfl), (Nat.le_of_ble_eq_true rfl)⟩ ⟨(Nat.le_of_ble_eq_true rfl), (Nat.le_of_ble_eq_true rfl)⟩ rfl rfl dX1_putHighParts_41 rfl ?_
  refine g_Vv (q := 47) (d' := 0) (i := r) (av := [.int (iI (0)), .int (iI (hiL (e - s) (wd ds s e) (lb (e - s) (wd ds s e))))]) (st := []) kvX1_42 (t_X1_put l h r len bs hR0 0 (hiL (e - s) (wd ds s e) (lb (e - s) (wd ds s e))) h0 (by decide) (by decide) (by omega) h1 (Or.inl rfl)) (by show _ < 103; omega) hR rfl (Nat.le_of_ble_eq_true rfl) ⟨(Nat.le_of_ble_eq_true rfl), (Nat.le_of_ble_eq_true rfl)⟩ ⟨(Nat.le_of_ble_eq_true rfl), (Nat.le_of_ble_eq_true rfl)⟩ rfl rfl dX1_putHighParts_44 rfl (fun h1 hp1 => ?_)
  obtain ⟨bs1, hC1, b1, fr1⟩ := hp1
  have hA1 : PA h1 a c m ds fa := ⟨by rw [fr1 _ (by omega) (by omega)]; exact hP, by rw [fr1 _ (by omega) (by omega)]; exact hD, by rw [fr1 _ (by omega) (by omega)]; exact hF, hlta⟩
  obtain ⟨hP1, hD1, hF1, -⟩ := id hA1
  obtain ⟨hR1, hB1, -⟩ := id hC1
  refine g_iconst (q := 48) dX1_putHighParts_47 rfl ?_
  refine g_istore (q := 50) (al2 := [some (.ref (r)), some (.ref (a)), some (.int (iI (k))), some (.int (iI (s))), some (.int (iI (len))), some (.int (iI (ds s))), some (.int (iI (e - s))), some (.int (iI (lb (e - s) (wd ds s e)))), some (.int (iI (0)))]) (by decide) rfl rfl dX1_putHighParts_48 rfl ?_
  refine loopG (σ := Int × (Int → Int) × EHp) (P := fun zz => match zz with | (i, bs2, h2) => G l noX mX1_putHighParts 2 0 0 (vP (fun h' => ∃ bs', CR h' r (len + hiL (e - s) (wd ds (s) (e)) (lb (e - s) (wd ds (s) (e)))) bs' ∧ (∀ j, bs' j = if len ≤ j ∧ j < len + hiL (e - s) (wd ds (s) (e)) (lb (e - s) (wd ds (s) (e))) then hib ds (s) (e) (lb (e - s) (wd ds (s) (e))) (j - len) else bs j) ∧ Fr2 h h' r)) 0 0 50 [some (.ref (r)), some (.ref (a)), some (.int (iI (k))), some (.int (iI (s))), some (.int (iI (len))), some (.int (iI (ds s))), some (.int (iI (e - s))), some (.int (iI (lb (e - s) (wd ds s e)))), some (.int (iI (i)))] [] NN h2) (I := fun zz => match zz with | (i, bs2, h2) => 0 ≤ i ∧ i ≤ e - s ∧ CR h2 r (len + hiL (e - s) (wd ds s e) (lb (e - s) (wd ds s e))) bs2 ∧ (∀ j, bs2 j = if len ≤ j ∧ j < len + hiL (e - s) (wd ds s e) (lb (e - s) (wd ds s e)) then ind (∃ y, s ≤ y ∧ y < s + i ∧ y - s + (ds y - ds s) / 2 ^ (lb (e - s) (wd ds s e)).toNat = j - len) else bs j) ∧ Fr2 h h2 r) (fun zz => match zz with | (i, bs2, h2) => (e - s - i).toNat) ?_ (0, bs1, h1) ⟨by omega, by omega, hC1, fun j => by
    rw [b1 j]
    by_cases z : len ≤ j ∧ j < len + hiL (e - s) (wd ds s e) (lb (e - s) (wd ds s e))
    · rw [if_pos z, if_pos z, ind_f (by rintro ⟨y, y1, y2, -⟩; omega)]; unfold bt; rw [Int.zero_ediv]; rfl
    · rw [if_neg z, if_neg z], fr1⟩
  rintro ⟨i, bs2, h2⟩ hI ih
  obtain ⟨i1, i2, hC2, i4, fr2⟩ := hI
  have hA2 : PA h2 a c m ds fa := ⟨by rw [fr2 _ (by omega) (by omega)]; exact hP, by rw [fr2 _ (by omega) (by omega)]; exact hD, by rw [fr2 _ (by omega) (by omega)]; exact hF, hlta⟩
  obtain ⟨hP2, hD2, hF2, -⟩ := id hA2
  obtain ⟨hR2, hB2, -⟩ := id hC2
  refine g_iload (q := 52) rfl dX1_putHighParts_50 rfl ?_
  refine g_iload (q := 54) rfl dX1_putHighParts_52 rfl ?_
  refine g_icmp_ge (t := 87) (q := 57) ⟨by omega, by omega⟩ ⟨by omega, by omega⟩ dX1_putHighParts_54 rfl rfl (fun c54 => ?_) (fun c54 => ?_)
  · have ei : i = e - s := by omega
    exact g_vreturn (fun z => NN_f z) (Nat.le_of_ble_eq_true rfl) (Nat.le_of_ble_eq_true rfl) dX1_putHighParts_87 rfl (vP_in ⟨bs2, hC2, fun j => by
        rw [i4 j]
        by_cases z : len ≤ j ∧ j < len + hiL (e - s) (wd ds s e) (lb (e - s) (wd ds s e))
        · rw [if_pos z, if_pos z]; exact ind_congr (by rw [ei, show s + (e - s) = e by omega])
        · rw [if_neg z, if_neg z], fr2⟩)
  · have gi := o3 (s + i) (by omega) (by omega)
    have gm : ds s ≤ ds (s + i) ∧ ds (s + i) ≤ ds (e - 1) := by
      constructor
      · by_cases z : i = 0
        · rw [z, Int.add_zero]; omega
        · exact Int.le_of_lt (o4 s (s + i) k0 (by omega) (by omega))
      · by_cases z : s + i = e - 1
        · rw [z]; omega
        · exact Int.le_of_lt (o4 (s + i) (e - 1) (by omega) (by omega) (by omega))
    have dd := dA_in (ds := ds) (show 0 ≤ s + i by omega) (show s + i < c by omega)
    have y1 : (ds (s + i) - ds s) / 2 ^ (lb (e - s) (wd ds s e)).toNat ≤ (wd ds s e - 1) / 2 ^ (lb (e - s) (wd ds s e)).toNat := Int.ediv_le_ediv (p2_pos _) (by omega)
    obtain ⟨y2, y3⟩ := div2_nn (a := ds (s + i) - ds s) (w := lb (e - s) (wd ds s e)) (by omega)
    refine g_aload_n (q := 58) rfl rfl dX1_putHighParts_57 rfl ?_
    refine g_iload (q := 60) rfl dX1_putHighParts_58 rfl ?_
    refine g_iload (q := 62) rfl dX1_putHighParts_60 rfl ?_
    refine g_iadd (q := 63) dX1_putHighParts_62 rfl ?_
    refine g_aload_n (q := 64) rfl rfl dX1_putHighParts_63 rfl ?_
    refine g_iload_n (q := 65) rfl rfl dX1_putHighParts_64 rfl ?_
    refine g_iload (q := 67) rfl dX1_putHighParts_65 rfl ?_
    refine g_iadd (q := 68) dX1_putHighParts_67 rfl ?_
    refine g_Vr (q := 71) (d' := 0) (i := a) (av := [.int (iI (s + i))]) (st := [.int (iI (len + i)), .ref (r)]) (v := .int (iI (ds (s + i)))) kvX1_50 (by have := t_X4_documentAt l h2 a c m ds fa hA2 hO (s + i) ⟨by omega, by omega⟩; rw [dd] at this; exact this) (by show _ < 103; omega) hP2 rfl (Nat.le_of_ble_eq_true rfl) ⟨(Nat.le_of_ble_eq_true rfl), (Nat.le_of_ble_eq_true rfl)⟩ ⟨(Nat.le_of_ble_eq_true rfl), (Nat.le_of_ble_eq_true rfl)⟩ rfl rfl dX1_putHighParts_68 rfl ?_
    refine g_iload (q := 73) rfl dX1_putHighParts_71 rfl ?_
    refine g_isub (q := 74) dX1_putHighParts_73 rfl ?_
    refine g_iload (q := 76) rfl dX1_putHighParts_74 rfl ?_
    refine g_ishr (q := 77) (by omega) (by omega) (by omega) (by omega) dX1_putHighParts_76 rfl ?_
    refine g_iadd (q := 78) dX1_putHighParts_77 rfl ?_
    refine g_Vv (q := 81) (d' := 0) (i := r) (av := [.int (iI ((len + i) + (((ds (s + i)) - (ds s)) / 2 ^ (lb (e - s) (wd ds s e) : Int).toNat)))]) (st := []) kvX1_53 (t_X1_setBit l h2 r (len + hiL (e - s) (wd ds s e) (lb (e - s) (wd ds s e))) bs2 hC2 (len + i + (ds (s + i) - ds s) / 2 ^ (lb (e - s) (wd ds s e)).toNat) (by omega) (by omega) (by omega)) (by show _ < 103; omega) hR2 rfl (Nat.le_of_ble_eq_true rfl) ⟨(Nat.le_of_ble_eq_true rfl), (Nat.le_of_ble_eq_true rfl)⟩ ⟨(Nat.le_of_ble_eq_true rfl), (Nat.le_of_ble_eq_true rfl)⟩ rfl rfl dX1_putHighParts_78 rfl (fun h3 hp3 => ?_)
    obtain ⟨hC3, fr3⟩ := hp3
    refine g_iinc (q := 84) (al2 := [some (.ref (r)), some (.ref (a)), some (.int (iI (k))), some (.int (iI (s))), some (.int (iI (len))), some (.int (iI (ds s))), some (.int (iI (e - s))), some (.int (iI (lb (e - s) (wd ds s e)))), some (.int (iI (i + 1)))]) rfl (by decide) rfl rfl dX1_putHighParts_81 rfl ?_
    refine g_goto (q := 50) dX1_putHighParts_84 rfl ?_
    exact ih (i + 1, ui bs2 (len + i + (ds (s + i) - ds s) / 2 ^ (lb (e - s) (wd ds s e)).toNat) 1, h3) ⟨by omega, by omega, hC3, fun j => by
      by_cases hj : j = len + i + (ds (s + i) - ds s) / 2 ^ (lb (e - s) (wd ds s e)).toNat
      · subst hj
        rw [ui_s, if_pos (by omega), ind_t ⟨s + i, by omega, by omega, by omega⟩]
      · rw [ui_n hj, i4 j]
        by_cases z : len ≤ j ∧ j < len + hiL (e - s) (wd ds s e) (lb (e - s) (wd ds s e))
        · rw [if_pos z, if_pos z]
          refine ind_congr ⟨fun ⟨y, y1, y2, y3⟩ => ⟨y, y1, by omega, y3⟩, fun ⟨y, y1, y2, y3⟩ => ⟨y, y1, ?_, y3⟩⟩
          by_cases zy : y = s + i
          · subst zy; omega
          · omega
        · rw [if_neg z, if_neg z], fun j j1 j2 => by rw [fr3 j j1 j2]; exact fr2 j j1 j2⟩ (show (e - s - (i + 1)).toNat < (e - s - i).toNat by omega)
set_option maxRecDepth 4000 in
theorem t_X1_putLowParts (l : Launch) (h : EHp) (r : Nat) (len : Int) (bs : Int → Int) (hR0 : CR h r len bs) (a : Nat) (c : Int) (m : Nat) (ds fa : Int → Int) (hA : PA h a c m ds fa) (hO : LOk c ds) (hFO : FOk c ds m fa) (k : Nat) (hk : k < m) (har : a + 2 < r ∨ r + 1 < a) (hkd : knd (pb c ds (k + 1) - pb c ds k) (wd ds (pb c ds k) (pb c ds (k + 1))) = 2) (h0 : 0 ≤ len) (h1 : len + (pb c ds (k + 1) - pb c ds k) * lb (pb c ds (k + 1) - pb c ds k) (wd ds (pb c ds k) (pb c ds (k + 1))) ≤ 538) : CT l mX1_putLowParts 2 0 0 [.ref (r), .ref (a), .int (iI (k)), .int (iI (pb c ds k))] NN h (vP (fun h' => ∃ bs', CR h' r (len + (pb c ds (k + 1) - pb c ds k) * lb (pb c ds (k + 1) - pb c ds k) (wd ds (pb c ds k) (pb c ds (k + 1)))) bs' ∧ (∀ j, bs' j = if len ≤ j ∧ j < len + (pb c ds (k + 1) - pb c ds k) * lb (pb c ds (k + 1) - pb c ds k) (wd ds (pb c ds k) (pb c ds (k + 1))) then lob ds (pb c ds k) (lb (pb c ds (k + 1) - pb c ds k) (wd ds (pb c ds k) (pb c ds (k + 1)))) (j - len) else bs j) ∧ Fr2 h h' r)) := by
  obtain ⟨hR, hB, hlt⟩ := hR0
  have hR0 : CR h r len bs := ⟨hR, hB, hlt⟩
  have hA0 := hA
  obtain ⟨hP, hD, hF, hlta⟩ := hA
  obtain ⟨o1, o2, o3, o4⟩ := id hO
  obtain ⟨k0, k1, k2⟩ := hFO.lt hO hk
  obtain ⟨g1, g2⟩ := hO.wid k0 k1 k2
  have fq := hFO.2.2.2 k hk
  have hm := hFO.1
  generalize hs : pb c ds k = s at *
  generalize he : pb c ds (k + 1) = e at *
  have gs := o3 s k0 (by omega)
  have kr := knd_rng (n := e - s) (u := wd ds s e)
  have q0 := fq 0 (by decide) (by decide)
  have q1 := fq 1 (by decide) (by decide)
  have q2 := fq 2 (by decide) (by decide)
  have q3 := fq 3 (by decide) (by decide)
  have q5 := fq 5 (by decide) (by decide)
  have ewd : wd ds s e = ds (e - 1) - ds s + 1 := rfl
  refine CT.of (by decide) (Nat.le_of_ble_eq_true rfl) ?_
  refine g_al (al2 := [some (.ref (r)), some (.ref (a)), some (.int (iI (k))), some (.int (iI (s))), none, none, none, none]) rfl ?_
  have q5 : fa ((k : Int) * 6 + 5) = lb (e - s) (wd ds s e) := by rw [q5]; show (if knd (e - s) (wd ds s e) = 2 then _ else _) = _; rw [if_pos hkd]; rfl
  obtain ⟨l1, l2, l3, l4⟩ := lb_spec (n := e - s) (u := wd ds s e) (by omega) (by omega) (by omega)
  refine g_aload_n (q := 1) rfl rfl dX1_putLowParts_0 rfl ?_
  refine g_iload_n (q := 2) rfl rfl dX1_putLowParts_1 rfl ?_
  refine g_iconst (q := 3) dX1_putLowParts_2 rfl ?_
  refine g_Vr (q := 6) (d' := 0) (i := a) (av := [.int (iI (k)), .int (iI (2))]) (st := []) (v := .int (iI (ds s))) kvX1_24 (by have := t_X4_factOf l h a c m ds fa hA0 k 2 (by omega) (by omega) (by decide) (by decide); rw [q2] at this; exact this) (by show _ < 103; omega) hP rfl (Nat.le_of_ble_eq_true rfl) ⟨(Nat.le_of_ble_eq_true rfl), (Nat.le_of_ble_eq_true rfl)⟩ ⟨(Nat.le_of_ble_eq_true rfl), (Nat.le_of_ble_eq_true rfl)⟩ rfl rfl dX1_putLowParts_3 rfl ?_
  refine g_istore (q := 8) (al2 := [some (.ref (r)), some (.ref (a)), some (.int (iI (k))), some (.int (iI (s))), some (.int (iI (ds s))), none, none, none]) (by decide) rfl rfl dX1_putLowParts_6 rfl ?_
  refine g_aload_n (q := 9) rfl rfl dX1_putLowParts_8 rfl ?_
  refine g_iload_n (q := 10) rfl rfl dX1_putLowParts_9 rfl ?_
  refine g_iconst (q := 11) dX1_putLowParts_10 rfl ?_
  refine g_Vr (q := 14) (d' := 0) (i := a) (av := [.int (iI (k)), .int (iI (1))]) (st := []) (v := .int (iI (e - s))) kvX1_24 (by have := t_X4_factOf l h a c m ds fa hA0 k 1 (by omega) (by omega) (by decide) (by decide); rw [q1] at this; exact this) (by show _ < 103; omega) hP rfl (Nat.le_of_ble_eq_true rfl) ⟨(Nat.le_of_ble_eq_true rfl), (Nat.le_of_ble_eq_true rfl)⟩ ⟨(Nat.le_of_ble_eq_true rfl), (Nat.le_of_ble_eq_true rfl)⟩ rfl rfl dX1_putLowParts_11 rfl ?_
  refine g_istore (q := 16) (al2 := [some (.ref (r)), some (.ref (a)), some (.int (iI (k))), some (.int (iI (s))), some (.int (iI (ds s))), some (.int (iI (e - s))), none, none]) (by decide) rfl rfl dX1_putLowParts_14 rfl ?_
  refine g_aload_n (q := 17) rfl rfl dX1_putLowParts_16 rfl ?_
  refine g_iload_n (q := 18) rfl rfl dX1_putLowParts_17 rfl ?_
  refine g_iconst (q := 19) dX1_putLowParts_18 rfl ?_
  refine g_Vr (q := 22) (d' := 0) (i := a) (av := [.int (iI (k)), .int (iI (5))]) (st := []) (v := .int (iI (lb (e - s) (wd ds s e)))) kvX1_24 (by have := t_X4_factOf l h a c m ds fa hA0 k 5 (by omega) (by omega) (by decide) (by decide); rw [q5] at this; exact this) (by show _ < 103; omega) hP rfl (Nat.le_of_ble_eq_true rfl) ⟨(Nat.le_of_ble_eq_true rfl), (Nat.le_of_ble_eq_true rfl)⟩ ⟨(Nat.le_of_ble_eq_true rfl), (Nat.le_of_ble_eq_true rfl)⟩ rfl rfl dX1_putLowParts_19 rfl ?_
  refine g_istore (q := 24) (al2 := [some (.ref (r)), some (.ref (a)), some (.int (iI (k))), some (.int (iI (s))), some (.int (iI (ds s))), some (.int (iI (e - s))), some (.int (iI (lb (e - s) (wd ds s e)))), none]) (by decide) rfl rfl dX1_putLowParts_22 rfl ?_
  refine g_iconst (q := 25) dX1_putLowParts_24 rfl ?_
  refine g_istore (q := 27) (al2 := [some (.ref (r)), some (.ref (a)), some (.int (iI (k))), some (.int (iI (s))), some (.int (iI (ds s))), some (.int (iI (e - s))), some (.int (iI (lb (e - s) (wd ds s e)))), some (.int (iI (0)))]) (by decide) rfl rfl dX1_putLowParts_25 rfl ?_
  refine loopG (σ := Int × (Int → Int) × EHp) (P := fun zz => match zz with | (i, bs2, h2) => G l noX mX1_putLowParts 2 0 0 (vP (fun h' => ∃ bs', CR h' r (len + (e - s) * lb (e - s) (wd ds (s) (e))) bs' ∧ (∀ j, bs' j = if len ≤ j ∧ j < len + (e - s) * lb (e - s) (wd ds (s) (e)) then lob ds (s) (lb (e - s) (wd ds (s) (e))) (j - len) else bs j) ∧ Fr2 h h' r)) 0 0 27 [some (.ref (r)), some (.ref (a)), some (.int (iI (k))), some (.int (iI (s))), some (.int (iI (ds s))), some (.int (iI (e - s))), some (.int (iI (lb (e - s) (wd ds s e)))), some (.int (iI (i)))] [] NN h2) (I := fun zz => match zz with | (i, bs2, h2) => 0 ≤ i ∧ i ≤ e - s ∧ CR h2 r (len + i * lb (e - s) (wd ds s e)) bs2 ∧ (∀ j, bs2 j = if len ≤ j ∧ j < len + i * lb (e - s) (wd ds s e) then lob ds s (lb (e - s) (wd ds s e)) (j - len) else bs j) ∧ Fr2 h h2 r) (fun zz => match zz with | (i, bs2, h2) => (e - s - i).toNat) ?_ (0, bs, h) ⟨by omega, by omega, by rw [Int.zero_mul, Int.add_zero]; exact hR0, fun j => by rw [if_neg (by rw [Int.zero_mul]; omega)], fun j _ _ => rfl⟩
  rintro ⟨i, bs2, h2⟩ hI ih
  obtain ⟨i1, i2, hC2, i4, fr2⟩ := hI
  have hA2 : PA h2 a c m ds fa := ⟨by rw [fr2 _ (by omega) (by omega)]; exact hP, by rw [fr2 _ (by omega) (by omega)]; exact hD, by rw [fr2 _ (by omega) (by omega)]; exact hF, hlta⟩
  obtain ⟨hP2, hD2, hF2, -⟩ := id hA2
  obtain ⟨hR2, hB2, -⟩ := id hC2
  have m0 : 0 ≤ i * lb (e - s) (wd ds s e) := Int.mul_nonneg i1 l1
  refine g_iload (q := 29) rfl dX1_putLowParts_27 rfl ?_
  refine g_iload (q := 31) rfl dX1_putLowParts_29 rfl ?_
  refine g_icmp_ge (t := 57) (q := 34) ⟨by omega, by omega⟩ ⟨by omega, by omega⟩ dX1_putLowParts_31 rfl rfl (fun c31 => ?_) (fun c31 => ?_)
  · have ei : i = e - s := by omega
    subst ei
    exact g_vreturn (fun z => NN_f z) (Nat.le_of_ble_eq_true rfl) (Nat.le_of_ble_eq_true rfl) dX1_putLowParts_57 rfl (vP_in ⟨bs2, hC2, i4, fr2⟩)
  · have gi := o3 (s + i) (by omega) (by omega)
    have gm : ds s ≤ ds (s + i) := by
      by_cases z : i = 0
      · rw [z, Int.add_zero]; omega
      · exact Int.le_of_lt (o4 s (s + i) k0 (by omega) (by omega))
    have dd := dA_in (ds := ds) (show 0 ≤ s + i by omega) (show s + i < c by omega)
    have m1 : i * lb (e - s) (wd ds s e) + lb (e - s) (wd ds s e) ≤ (e - s) * lb (e - s) (wd ds s e) := by
      have := Int.mul_le_mul_of_nonneg_right (show i + 1 ≤ e - s by omega) l1
      rw [Int.add_mul] at this
      omega
    have m2 : (i + 1) * lb (e - s) (wd ds s e) = i * lb (e - s) (wd ds s e) + lb (e - s) (wd ds s e) := by rw [Int.add_mul]; omega
    refine g_aload_n (q := 35) rfl rfl dX1_putLowParts_34 rfl ?_
    refine g_aload_n (q := 36) rfl rfl dX1_putLowParts_35 rfl ?_
    refine g_iload_n (q := 37) rfl rfl dX1_putLowParts_36 rfl ?_
    refine g_iload (q := 39) rfl dX1_putLowParts_37 rfl ?_
    refine g_iadd (q := 40) dX1_putLowParts_39 rfl ?_
    refine g_Vr (q := 43) (d' := 0) (i := a) (av := [.int (iI (s + i))]) (st := [.ref (r)]) (v := .int (iI (ds (s + i)))) kvX1_50 (by have := t_X4_documentAt l h2 a c m ds fa hA2 hO (s + i) ⟨by omega, by omega⟩; rw [dd] at this; exact this) (by show _ < 103; omega) hP2 rfl (Nat.le_of_ble_eq_true rfl) ⟨(Nat.le_of_ble_eq_true rfl), (Nat.le_of_ble_eq_true rfl)⟩ ⟨(Nat.le_of_ble_eq_true rfl), (Nat.le_of_ble_eq_true rfl)⟩ rfl rfl dX1_putLowParts_40 rfl ?_
    refine g_iload (q := 45) rfl dX1_putLowParts_43 rfl ?_
    refine g_isub (q := 46) dX1_putLowParts_45 rfl ?_
    refine g_iload (q := 48) rfl dX1_putLowParts_46 rfl ?_
    refine g_Vv (q := 51) (d' := 0) (i := r) (av := [.int (iI ((ds (s + i)) - (ds s))), .int (iI (lb (e - s) (wd ds s e)))]) (st := []) kvX1_42 (t_X1_put l h2 r (len + i * lb (e - s) (wd ds s e)) bs2 hC2 (ds (s + i) - ds s) (lb (e - s) (wd ds s e)) (by omega) (by omega) (by omega) l1 (by omega) (Or.inr (by omega))) (by show _ < 103; omega) hR2 rfl (Nat.le_of_ble_eq_true rfl) ⟨(Nat.le_of_ble_eq_true rfl), (Nat.le_of_ble_eq_true rfl)⟩ ⟨(Nat.le_of_ble_eq_true rfl), (Nat.le_of_ble_eq_true rfl)⟩ rfl rfl dX1_putLowParts_48 rfl (fun h3 hp3 => ?_)
    obtain ⟨bs3, hC3, b3, fr3⟩ := hp3
    refine g_iinc (q := 54) (al2 := [some (.ref (r)), some (.ref (a)), some (.int (iI (k))), some (.int (iI (s))), some (.int (iI (ds s))), some (.int (iI (e - s))), some (.int (iI (lb (e - s) (wd ds s e)))), some (.int (iI (i + 1)))]) rfl (by decide) rfl rfl dX1_putLowParts_51 rfl ?_
    refine g_goto (q := 27) dX1_putLowParts_54 rfl ?_
    exact ih (i + 1, bs3, h3) ⟨by omega, by omega, by rw [m2, ← Int.add_assoc]; exact hC3, fun j => by
      rw [b3 j, m2]
      by_cases z : len + i * lb (e - s) (wd ds s e) ≤ j ∧ j < len + i * lb (e - s) (wd ds s e) + lb (e - s) (wd ds s e)
      · rw [if_pos z, if_pos (by omega)]
        unfold lob
        have ed : (j - len) / lb (e - s) (wd ds s e) = i := by
          rw [show j - len = (j - (len + i * lb (e - s) (wd ds s e))) + i * lb (e - s) (wd ds s e) by omega, Int.add_mul_ediv_right _ _ (by omega), Int.ediv_eq_zero_of_lt (by omega) (by omega)]
          omega
        have em : (j - len) % lb (e - s) (wd ds s e) = j - (len + i * lb (e - s) (wd ds s e)) := by
          rw [show j - len = (j - (len + i * lb (e - s) (wd ds s e))) + i * lb (e - s) (wd ds s e) by omega, Int.add_mul_emod_self_right, Int.emod_eq_of_lt (by omega) (by omega)]
        rw [ed, em]
      · rw [if_neg z, i4 j]
        by_cases z2 : len ≤ j ∧ j < len + i * lb (e - s) (wd ds s e)
        · rw [if_pos z2, if_pos (by omega)]
        · rw [if_neg z2, if_neg (by omega)], fun j j1 j2 => by rw [fr3 j j1 j2]; exact fr2 j j1 j2⟩ (show (e - s - (i + 1)).toNat < (e - s - i).toNat by omega)
