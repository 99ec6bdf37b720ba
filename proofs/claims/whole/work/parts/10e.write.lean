/-! ===== CodeRow.write ===== -/
set_option maxRecDepth 4000 in
theorem t_X1_write (l : Launch) (h : EHp) (r : Nat) (len : Int) (bs : Int → Int) (hR0 : CR h r len bs) (a : Nat) (c : Int) (m : Nat) (ds fa : Int → Int) (hA : PA h a c m ds fa) (hO : LOk c ds) (hFO : FOk c ds m fa) (har : a + 2 < r ∨ r + 1 < a) : CT l mX1_write 3 0 0 [.ref (r), .ref (a)] NN h (vP (fun h' => ∃ bs', CR h' r (szP c ds m) bs' ∧ BOk c ds m bs' ∧ Fr2 h h' r)) := by
  obtain ⟨hR, hB, hlt⟩ := hR0
  obtain ⟨hP, hD, hF, hlta⟩ := hA
  obtain ⟨o1, o2, o3, o4⟩ := id hO
  have hm := hFO.1
  refine CT.of (by decide) (Nat.le_of_ble_eq_true rfl) ?_
  refine g_al (al2 := [some (.ref (r)), some (.ref (a)), none, none, none]) rfl ?_
  refine g_aload_n (q := 1) rfl rfl dX1_write_0 rfl ?_
  refine g_iconst (q := 2) dX1_write_1 rfl ?_
  refine g_put (q := 5) fX1_15 (by show _ < 103; omega) hR (Nat.le_of_ble_eq_true rfl) (fun _ _ => rfl) (fun _ _ => rfl) dX1_write_2 rfl ?_
  refine hp_in (fun hh1 ehh1 => ?_)
  have fc2 : hh1 r = cO 1 [.ref (r + 1), .int (iI (0))] := by rw [ehh1]; exact ueh_s
  have fc3 : hh1 (r + 1) = cI 538 bs := by rw [ehh1, ueh_n (by omega)]; exact hB
  have fc4 : hh1 a = cO 4 [.ref (a + 1), .int (iI (c)), .ref (a + 2), .int (iI (m))] := by rw [ehh1, ueh_n (by omega)]; exact hP
  have fc5 : hh1 (a + 1) = cI 64 ds := by rw [ehh1, ueh_n (by omega)]; exact hD
  have fc6 : hh1 (a + 2) = cI 384 fa := by rw [ehh1, ueh_n (by omega)]; exact hF
  refine g_iconst (q := 6) dX1_write_5 rfl ?_
  refine g_istore_n (q := 7) (al2 := [some (.ref (r)), some (.ref (a)), some (.int (iI (0))), none, none]) rfl (by decide) rfl rfl dX1_write_6 rfl ?_
  refine g_iconst (q := 8) dX1_write_7 rfl ?_
  refine g_istore_n (q := 9) (al2 := [some (.ref (r)), some (.ref (a)), some (.int (iI (0))), some (.int (iI (0))), none]) rfl (by decide) rfl rfl dX1_write_8 rfl ?_
  refine loopG (σ := Nat × (Int → Int) × EHp) (P := fun zz => match zz with | (k, bs1, h1) => G l noX mX1_write 3 0 0 (vP (fun h' => ∃ bs', CR h' r (szP c ds m) bs' ∧ BOk c ds m bs' ∧ Fr2 h h' r)) 0 0 9 [some (.ref (r)), some (.ref (a)), some (.int (iI (pb c ds k))), some (.int (iI (k))), none] [] NN h1) (I := fun zz => match zz with | (k, bs1, h1) => k ≤ m ∧ CR h1 r (szP c ds k) bs1 ∧ BOk c ds k bs1 ∧ Fr2 h h1 r) (fun zz => match zz with | (k, bs1, h1) => m - k) ?_ (0, bs, hh1) ⟨Nat.zero_le _, ⟨fc2, fc3, hlt⟩, fun p z => absurd z (Nat.not_lt_zero _), fun j j1 j2 => by rw [ehh1, ueh_n (by omega)]⟩
  rintro ⟨k, bs1, h1⟩ hI ih
  obtain ⟨k1, hC1, hB1, fr1⟩ := hI
  have hA1 : PA h1 a c m ds fa := ⟨by rw [fr1 _ (by omega) (by omega)]; exact hP, by rw [fr1 _ (by omega) (by omega)]; exact hD, by rw [fr1 _ (by omega) (by omega)]; exact hF, hlta⟩
  obtain ⟨hP1, hD1, hF1, -⟩ := id hA1
  obtain ⟨hR1, hBb1, -⟩ := id hC1
  refine g_iload_n (q := 10) rfl rfl dX1_write_9 rfl ?_
  refine g_aload_n (q := 11) rfl rfl dX1_write_10 rfl ?_
  refine g_get (q := 14) fX1_19r (by show _ < 103; omega) hP1 rfl dX1_write_11 rfl ?_
  refine g_icmp_ge (t := 82) (q := 17) ⟨by omega, by omega⟩ ⟨by omega, by omega⟩ dX1_write_14 rfl rfl (fun c14 => ?_) (fun c14 => ?_)
  · have ek : k = m := by omega
    subst ek
    exact g_vreturn (fun z => NN_f z) (Nat.le_of_ble_eq_true rfl) (Nat.le_of_ble_eq_true rfl) dX1_write_82 rfl (vP_in ⟨bs1, hC1, hB1, fr1⟩)
  · have hk : k < m := by omega
    obtain ⟨k0, kl, k2⟩ := hFO.lt hO hk
    obtain ⟨g1, g2⟩ := hO.wid k0 kl k2
    have sz := szP_le hO hFO.2.1 (show k + 1 ≤ m by omega)
    have sk := szP_le hO hFO.2.1 (show k ≤ m by omega)
    have es : szP c ds (k + 1) = szP c ds k + psz ds (pb c ds k) (pb c ds (k + 1)) := rfl
    have pr := psz_rng hO k0 kl k2
    have q0 := hFO.2.2.2 k hk 0 (by decide) (by decide)
    have q1 := hFO.2.2.2 k hk 1 (by decide) (by decide)
    have pk := psz_knd (ds := ds) (s := pb c ds k) (e := pb c ds (k + 1))
    have ewd : wd ds (pb c ds k) (pb c ds (k + 1)) = ds (pb c ds (k + 1) - 1) - ds (pb c ds k) + 1 := rfl
    have kr := knd_rng (n := pb c ds (k + 1) - pb c ds k) (u := wd ds (pb c ds k) (pb c ds (k + 1)))
    refine g_aload_n (q := 18) rfl rfl dX1_write_17 rfl ?_
    refine g_iload_n (q := 19) rfl rfl dX1_write_18 rfl ?_
    refine g_iconst (q := 20) dX1_write_19 rfl ?_
    refine g_Vr (q := 23) (d' := 0) (i := a) (av := [.int (iI (k)), .int (iI (0))]) (st := []) (v := .int (iI (knd (pb c ds (k + 1) - pb c ds k) (wd ds (pb c ds k) (pb c ds (k + 1)))))) kvX1_24 (by have := t_X4_factOf l h1 a c m ds fa hA1 k 0 (by omega) (by omega) (by decide) (by decide); rw [q0] at this; exact this) (by show _ < 103; omega) hP1 rfl (Nat.le_of_ble_eq_true rfl) ⟨(Nat.le_of_ble_eq_true rfl), (Nat.le_of_ble_eq_true rfl)⟩ ⟨(Nat.le_of_ble_eq_true rfl), (Nat.le_of_ble_eq_true rfl)⟩ rfl rfl dX1_write_20 rfl ?_
    refine g_istore (q := 25) (al2 := [some (.ref (r)), some (.ref (a)), some (.int (iI (pb c ds k))), some (.int (iI (k))), some (.int (iI (knd (pb c ds (k + 1) - pb c ds k) (wd ds (pb c ds k) (pb c ds (k + 1))))))]) (by decide) rfl rfl dX1_write_23 rfl ?_
    refine g_aload_n (q := 26) rfl rfl dX1_write_25 rfl ?_
    refine g_aload_n (q := 27) rfl rfl dX1_write_26 rfl ?_
    refine g_iload_n (q := 28) rfl rfl dX1_write_27 rfl ?_
    refine g_Vv (q := 31) (d' := 2) (i := r) (av := [.ref (a), .int (iI (k))]) (st := []) kvX1_28 (t_X1_putHeader l h1 r (szP c ds k) bs1 hC1 a c m ds fa hA1 hO hFO k hk har sk.1 (by omega)) (by show _ < 103; omega) hR1 rfl (Nat.le_of_ble_eq_true rfl) ⟨(Nat.le_of_ble_eq_true rfl), (Nat.le_of_ble_eq_true rfl)⟩ ⟨(Nat.le_of_ble_eq_true rfl), (Nat.le_of_ble_eq_true rfl)⟩ rfl rfl dX1_write_28 rfl (fun h2 hp2 => ?_)
    obtain ⟨bs2, hC2, b2, fr2⟩ := hp2
    have fr2h : Fr2 h h2 r := fun j j1 j2 => by rw [fr2 j j1 j2]; exact fr1 j j1 j2
    have hA2 : PA h2 a c m ds fa := ⟨by rw [fr2h _ (by omega) (by omega)]; exact hP, by rw [fr2h _ (by omega) (by omega)]; exact hD, by rw [fr2h _ (by omega) (by omega)]; exact hF, hlta⟩
    obtain ⟨hP2, hD2, hF2, -⟩ := id hA2
    obtain ⟨hR2, hBb2, -⟩ := id hC2
    refine g_iload (q := 33) rfl dX1_write_31 rfl ?_
    refine g_iconst (q := 34) dX1_write_33 rfl ?_
    refine g_icmp_ne (t := 47) (q := 37) ⟨by omega, by omega⟩ ⟨by omega, by omega⟩ dX1_write_34 rfl rfl (fun c34 => ?_) (fun c34 => ?_)
    · refine g_iload (q := 49) rfl dX1_write_47 rfl ?_
      refine g_iconst (q := 50) dX1_write_49 rfl ?_
      refine g_icmp_ne (t := 67) (q := 53) ⟨by omega, by omega⟩ ⟨by omega, by omega⟩ dX1_write_50 rfl rfl (fun c50 => ?_) (fun c50 => ?_)
      · have hk0 : knd (pb c ds (k + 1) - pb c ds k) (wd ds (pb c ds k) (pb c ds (k + 1))) = 0 := by omega
        have ep : psz ds (pb c ds k) (pb c ds (k + 1)) = 26 := by rcases pk with z | z | z <;> omega
        have hCn : CR h2 r (szP c ds (k + 1)) bs2 := by rw [es, ep]; exact hC2
        have hBn : BOk c ds (k + 1) bs2 := hB1.next hO hFO.2.1 hk (fun j hj => by rw [b2 j, if_neg (by omega)]) (fun q y0 y1 => by
          rw [b2 _, if_pos (by omega)]
          unfold pbit
          rw [if_pos (by omega), show szP c ds k + q - szP c ds k = q by omega])
        obtain ⟨hR2, hBb2, -⟩ := id hCn
        refine g_iload_n (q := 68) rfl rfl dX1_write_67 rfl ?_
        refine g_aload_n (q := 69) rfl rfl dX1_write_68 rfl ?_
        refine g_iload_n (q := 70) rfl rfl dX1_write_69 rfl ?_
        refine g_iconst (q := 71) dX1_write_70 rfl ?_
        refine g_Vr (q := 74) (d' := 0) (i := a) (av := [.int (iI (k)), .int (iI (1))]) (st := [.int (iI (pb c ds k))]) (v := .int (iI (pb c ds (k + 1) - pb c ds k))) kvX1_24 (by have := t_X4_factOf l h2 a c m ds fa hA2 k 1 (by omega) (by omega) (by decide) (by decide); rw [q1] at this; exact this) (by show _ < 103; omega) hP2 rfl (Nat.le_of_ble_eq_true rfl) ⟨(Nat.le_of_ble_eq_true rfl), (Nat.le_of_ble_eq_true rfl)⟩ ⟨(Nat.le_of_ble_eq_true rfl), (Nat.le_of_ble_eq_true rfl)⟩ rfl rfl dX1_write_71 rfl ?_
        refine g_iadd (q := 75) dX1_write_74 rfl ?_
        refine g_istore_n (q := 76) (al2 := [some (.ref (r)), some (.ref (a)), some (.int (iI ((pb c ds k) + (pb c ds (k + 1) - pb c ds k)))), some (.int (iI (k))), some (.int (iI (knd (pb c ds (k + 1) - pb c ds k) (wd ds (pb c ds k) (pb c ds (k + 1))))))]) rfl (by decide) rfl rfl dX1_write_75 rfl ?_
        refine g_iinc (q := 79) (al2 := [some (.ref (r)), some (.ref (a)), some (.int (iI ((pb c ds k) + (pb c ds (k + 1) - pb c ds k)))), some (.int (iI (k + 1))), some (.int (iI (knd (pb c ds (k + 1) - pb c ds k) (wd ds (pb c ds k) (pb c ds (k + 1))))))]) rfl (by decide) rfl rfl dX1_write_76 rfl ?_
        refine g_goto (q := 9) dX1_write_79 rfl ?_
        refine g_drop (al2 := [some (.ref (r)), some (.ref (a)), some (.int (iI ((pb c ds k) + (pb c ds (k + 1) - pb c ds k)))), some (.int (iI (k + 1))), none]) 4 rfl ?_
        rw [show pb c ds k + (pb c ds (k + 1) - pb c ds k) = pb c ds (k + 1) by omega]
        exact ih (k + 1, bs2, h2) ⟨show k + 1 ≤ m by omega, hCn, hBn, fr2h⟩ (show m - (k + 1) < m - k by omega)
      · have ep : psz ds (pb c ds k) (pb c ds (k + 1)) = 26 + (hiL (pb c ds (k + 1) - pb c ds k) (wd ds (pb c ds k) (pb c ds (k + 1))) (lb (pb c ds (k + 1) - pb c ds k) (wd ds (pb c ds k) (pb c ds (k + 1)))) + (pb c ds (k + 1) - pb c ds k) * lb (pb c ds (k + 1) - pb c ds k) (wd ds (pb c ds k) (pb c ds (k + 1)))) := by
          rcases pk with z | z | z
          · omega
          · omega
          · exact z.2
        obtain ⟨l1, l2, l3, l4⟩ := lb_spec (n := pb c ds (k + 1) - pb c ds k) (u := wd ds (pb c ds k) (pb c ds (k + 1))) (by omega) (by omega) (by omega)
        obtain ⟨z1, z2⟩ := div2_nn (a := wd ds (pb c ds k) (pb c ds (k + 1)) - 1) (w := lb (pb c ds (k + 1) - pb c ds k) (wd ds (pb c ds k) (pb c ds (k + 1)))) (by omega)
        have ehl : hiL (pb c ds (k + 1) - pb c ds k) (wd ds (pb c ds k) (pb c ds (k + 1))) (lb (pb c ds (k + 1) - pb c ds k) (wd ds (pb c ds k) (pb c ds (k + 1)))) = (pb c ds (k + 1) - pb c ds k) + (wd ds (pb c ds k) (pb c ds (k + 1)) - 1) / 2 ^ (lb (pb c ds (k + 1) - pb c ds k) (wd ds (pb c ds k) (pb c ds (k + 1)))).toNat + 1 := rfl
        have mnn : 0 ≤ (pb c ds (k + 1) - pb c ds k) * lb (pb c ds (k + 1) - pb c ds k) (wd ds (pb c ds k) (pb c ds (k + 1))) := Int.mul_nonneg (by omega) l1
        refine g_aload_n (q := 54) rfl rfl dX1_write_53 rfl ?_
        refine g_aload_n (q := 55) rfl rfl dX1_write_54 rfl ?_
        refine g_iload_n (q := 56) rfl rfl dX1_write_55 rfl ?_
        refine g_iload_n (q := 57) rfl rfl dX1_write_56 rfl ?_
        refine g_Vv (q := 60) (d' := 2) (i := r) (av := [.ref (a), .int (iI (k)), .int (iI (pb c ds k))]) (st := []) kvX1_36 (t_X1_putHighParts l h2 r (szP c ds k + 26) bs2 hC2 a c m ds fa hA2 hO hFO k hk har c50 (by omega) (by omega)) (by show _ < 103; omega) hR2 rfl (Nat.le_of_ble_eq_true rfl) ⟨(Nat.le_of_ble_eq_true rfl), (Nat.le_of_ble_eq_true rfl)⟩ ⟨(Nat.le_of_ble_eq_true rfl), (Nat.le_of_ble_eq_true rfl)⟩ rfl rfl dX1_write_57 rfl (fun h3 hp3 => ?_)
        obtain ⟨bs3, hC3, b3, fr3⟩ := hp3
        have fr3h : Fr2 h h3 r := fun j j1 j2 => by rw [fr3 j j1 j2]; exact fr2h j j1 j2
        have hA3 : PA h3 a c m ds fa := ⟨by rw [fr3h _ (by omega) (by omega)]; exact hP, by rw [fr3h _ (by omega) (by omega)]; exact hD, by rw [fr3h _ (by omega) (by omega)]; exact hF, hlta⟩
        obtain ⟨hP3, hD3, hF3, -⟩ := id hA3
        obtain ⟨hR3, hBb3, -⟩ := id hC3
        refine g_aload_n (q := 61) rfl rfl dX1_write_60 rfl ?_
        refine g_aload_n (q := 62) rfl rfl dX1_write_61 rfl ?_
        refine g_iload_n (q := 63) rfl rfl dX1_write_62 rfl ?_
        refine g_iload_n (q := 64) rfl rfl dX1_write_63 rfl ?_
        refine g_Vv (q := 67) (d' := 2) (i := r) (av := [.ref (a), .int (iI (k)), .int (iI (pb c ds k))]) (st := []) kvX1_39 (t_X1_putLowParts l h3 r (szP c ds k + 26 + hiL (pb c ds (k + 1) - pb c ds k) (wd ds (pb c ds k) (pb c ds (k + 1))) (lb (pb c ds (k + 1) - pb c ds k) (wd ds (pb c ds k) (pb c ds (k + 1))))) bs3 hC3 a c m ds fa hA3 hO hFO k hk har c50 (by omega) (by omega)) (by show _ < 103; omega) hR3 rfl (Nat.le_of_ble_eq_true rfl) ⟨(Nat.le_of_ble_eq_true rfl), (Nat.le_of_ble_eq_true rfl)⟩ ⟨(Nat.le_of_ble_eq_true rfl), (Nat.le_of_ble_eq_true rfl)⟩ rfl rfl dX1_write_64 rfl (fun h4 hp4 => ?_)
        obtain ⟨bs4, hC4, b4, fr4⟩ := hp4
        have fr4h : Fr2 h h4 r := fun j j1 j2 => by rw [fr4 j j1 j2]; exact fr3h j j1 j2
        have hA4 : PA h4 a c m ds fa := ⟨by rw [fr4h _ (by omega) (by omega)]; exact hP, by rw [fr4h _ (by omega) (by omega)]; exact hD, by rw [fr4h _ (by omega) (by omega)]; exact hF, hlta⟩
        obtain ⟨hP4, hD4, hF4, -⟩ := id hA4
        have hCn : CR h4 r (szP c ds (k + 1)) bs4 := by rw [es, ep, ← Int.add_assoc, ← Int.add_assoc]; exact hC4
        obtain ⟨hR4, hBb4, -⟩ := id hCn
        have hBn : BOk c ds (k + 1) bs4 := hB1.next hO hFO.2.1 hk (fun j hj => by rw [b4 j, if_neg (by omega), b3 j, if_neg (by omega), b2 j, if_neg (by omega)]) (fun q y0 y1 => by
          unfold pbit
          by_cases y2 : q < 26
          · rw [if_pos y2, b4 _, if_neg (by omega), b3 _, if_neg (by omega), b2 _, if_pos (by omega), show szP c ds k + q - szP c ds k = q by omega]
          · rw [if_neg y2]
            unfold bbit
            rw [if_neg (by omega)]
            by_cases y3 : q - 26 < hiL (pb c ds (k + 1) - pb c ds k) (wd ds (pb c ds k) (pb c ds (k + 1))) (lb (pb c ds (k + 1) - pb c ds k) (wd ds (pb c ds k) (pb c ds (k + 1))))
            · rw [if_pos y3, b4 _, if_neg (by omega), b3 _, if_pos (by omega), show szP c ds k + q - (szP c ds k + 26) = q - 26 by omega]
            · rw [if_neg y3, b4 _, if_pos (by omega), show szP c ds k + q - (szP c ds k + 26 + hiL (pb c ds (k + 1) - pb c ds k) (wd ds (pb c ds k) (pb c ds (k + 1))) (lb (pb c ds (k + 1) - pb c ds k) (wd ds (pb c ds k) (pb c ds (k + 1))))) = q - 26 - hiL (pb c ds (k + 1) - pb c ds k) (wd ds (pb c ds k) (pb c ds (k + 1))) (lb (pb c ds (k + 1) - pb c ds k) (wd ds (pb c ds k) (pb c ds (k + 1)))) by omega])
        refine g_iload_n (q := 68) rfl rfl dX1_write_67 rfl ?_
        refine g_aload_n (q := 69) rfl rfl dX1_write_68 rfl ?_
        refine g_iload_n (q := 70) rfl rfl dX1_write_69 rfl ?_
        refine g_iconst (q := 71) dX1_write_70 rfl ?_
        refine g_Vr (q := 74) (d' := 0) (i := a) (av := [.int (iI (k)), .int (iI (1))]) (st := [.int (iI (pb c ds k))]) (v := .int (iI (pb c ds (k + 1) - pb c ds k))) kvX1_24 (by have := t_X4_factOf l h4 a c m ds fa hA4 k 1 (by omega) (by omega) (by decide) (by decide); rw [q1] at this; exact this) (by show _ < 103; omega) hP4 rfl (Nat.le_of_ble_eq_true rfl) ⟨(Nat.le_of_ble_eq_true rfl), (Nat.le_of_ble_eq_true rfl)⟩ ⟨(Nat.le_of_ble_eq_true rfl), (Nat.le_of_ble_eq_true rfl)⟩ rfl rfl dX1_write_71 rfl ?_
        refine g_iadd (q := 75) dX1_write_74 rfl ?_
        refine g_istore_n (q := 76) (al2 := [some (.ref (r)), some (.ref (a)), some (.int (iI ((pb c ds k) + (pb c ds (k + 1) - pb c ds k)))), some (.int (iI (k))), some (.int (iI (knd (pb c ds (k + 1) - pb c ds k) (wd ds (pb c ds k) (pb c ds (k + 1))))))]) rfl (by decide) rfl rfl dX1_write_75 rfl ?_
        refine g_iinc (q := 79) (al2 := [some (.ref (r)), some (.ref (a)), some (.int (iI ((pb c ds k) + (pb c ds (k + 1) - pb c ds k)))), some (.int (iI (k + 1))), some (.int (iI (knd (pb c ds (k + 1) - pb c ds k) (wd ds (pb c ds k) (pb c ds (k + 1))))))]) rfl (by decide) rfl rfl dX1_write_76 rfl ?_
        refine g_goto (q := 9) dX1_write_79 rfl ?_
        refine g_drop (al2 := [some (.ref (r)), some (.ref (a)), some (.int (iI ((pb c ds k) + (pb c ds (k + 1) - pb c ds k)))), some (.int (iI (k + 1))), none]) 4 rfl ?_
        rw [show pb c ds k + (pb c ds (k + 1) - pb c ds k) = pb c ds (k + 1) by omega]
        exact ih (k + 1, bs4, h4) ⟨show k + 1 ≤ m by omega, hCn, hBn, fr4h⟩ (show m - (k + 1) < m - k by omega)
    · have ep : psz ds (pb c ds k) (pb c ds (k + 1)) = 26 + wd ds (pb c ds k) (pb c ds (k + 1)) := by rcases pk with z | z | z <;> omega
      refine g_aload_n (q := 38) rfl rfl dX1_write_37 rfl ?_
      refine g_aload_n (q := 39) rfl rfl dX1_write_38 rfl ?_
      refine g_iload_n (q := 40) rfl rfl dX1_write_39 rfl ?_
      refine g_iload_n (q := 41) rfl rfl dX1_write_40 rfl ?_
      refine g_Vv (q := 44) (d' := 2) (i := r) (av := [.ref (a), .int (iI (k)), .int (iI (pb c ds k))]) (st := []) kvX1_32 (t_X1_putBitmap l h2 r (szP c ds k + 26) bs2 hC2 a c m ds fa hA2 hO hFO k hk har (by omega) (by omega)) (by show _ < 103; omega) hR2 rfl (Nat.le_of_ble_eq_true rfl) ⟨(Nat.le_of_ble_eq_true rfl), (Nat.le_of_ble_eq_true rfl)⟩ ⟨(Nat.le_of_ble_eq_true rfl), (Nat.le_of_ble_eq_true rfl)⟩ rfl rfl dX1_write_41 rfl (fun h3 hp3 => ?_)
      obtain ⟨bs3, hC3, b3, fr3⟩ := hp3
      have fr3h : Fr2 h h3 r := fun j j1 j2 => by rw [fr3 j j1 j2]; exact fr2h j j1 j2
      have hA3 : PA h3 a c m ds fa := ⟨by rw [fr3h _ (by omega) (by omega)]; exact hP, by rw [fr3h _ (by omega) (by omega)]; exact hD, by rw [fr3h _ (by omega) (by omega)]; exact hF, hlta⟩
      obtain ⟨hP3, hD3, hF3, -⟩ := id hA3
      have hCn : CR h3 r (szP c ds (k + 1)) bs3 := by rw [es, ep, ← Int.add_assoc]; exact hC3
      obtain ⟨hR3, hBb3, -⟩ := id hCn
      have hBn : BOk c ds (k + 1) bs3 := hB1.next hO hFO.2.1 hk (fun j hj => by rw [b3 j, if_neg (by omega), b2 j, if_neg (by omega)]) (fun q y0 y1 => by
        unfold pbit
        by_cases y2 : q < 26
        · rw [if_pos y2, b3 _, if_neg (by omega), b2 _, if_pos (by omega), show szP c ds k + q - szP c ds k = q by omega]
        · rw [if_neg y2]
          unfold bbit
          rw [if_pos c34, b3 _, if_pos (by omega), show szP c ds k + q - (szP c ds k + 26) = q - 26 by omega])
      refine g_goto (q := 67) dX1_write_44 rfl ?_
      refine g_iload_n (q := 68) rfl rfl dX1_write_67 rfl ?_
      refine g_aload_n (q := 69) rfl rfl dX1_write_68 rfl ?_
      refine g_iload_n (q := 70) rfl rfl dX1_write_69 rfl ?_
      refine g_iconst (q := 71) dX1_write_70 rfl ?_
      refine g_Vr (q := 74) (d' := 0) (i := a) (av := [.int (iI (k)), .int (iI (1))]) (st := [.int (iI (pb c ds k))]) (v := .int (iI (pb c ds (k + 1) - pb c ds k))) kvX1_24 (by have := t_X4_factOf l h3 a c m ds fa hA3 k 1 (by omega) (by omega) (by decide) (by decide); rw [q1] at this; exact this) (by show _ < 103; omega) hP3 rfl (Nat.le_of_ble_eq_true rfl) ⟨(Nat.le_of_ble_eq_true rfl), (Nat.le_of_ble_eq_true rfl)⟩ ⟨(Nat.le_of_ble_eq_true rfl), (Nat.le_of_ble_eq_true rfl)⟩ rfl rfl dX1_write_71 rfl ?_
      refine g_iadd (q := 75) dX1_write_74 rfl ?_
      refine g_istore_n (q := 76) (al2 := [some (.ref (r)), some (.ref (a)), some (.int (iI ((pb c ds k) + (pb c ds (k + 1) - pb c ds k)))), some (.int (iI (k))), some (.int (iI (knd (pb c ds (k + 1) - pb c ds k) (wd ds (pb c ds k) (pb c ds (k + 1))))))]) rfl (by decide) rfl rfl dX1_write_75 rfl ?_
      refine g_iinc (q := 79) (al2 := [some (.ref (r)), some (.ref (a)), some (.int (iI ((pb c ds k) + (pb c ds (k + 1) - pb c ds k)))), some (.int (iI (k + 1))), some (.int (iI (knd (pb c ds (k + 1) - pb c ds k) (wd ds (pb c ds k) (pb c ds (k + 1))))))]) rfl (by decide) rfl rfl dX1_write_76 rfl ?_
      refine g_goto (q := 9) dX1_write_79 rfl ?_
      refine g_drop (al2 := [some (.ref (r)), some (.ref (a)), some (.int (iI ((pb c ds k) + (pb c ds (k + 1) - pb c ds k)))), some (.int (iI (k + 1))), none]) 4 rfl ?_
      rw [show pb c ds k + (pb c ds (k + 1) - pb c ds k) = pb c ds (k + 1) by omega]
      exact ih (k + 1, bs3, h3) ⟨show k + 1 ≤ m by omega, hCn, hBn, fr3h⟩ (show m - (k + 1) < m - k by omega)
