/-! ===== Partitioner ===== -/
set_option maxRecDepth 4000 in
theorem t_X3_chooseEnd (l : Launch) (h : EHp) (t a : Nat) (c m : Int) (ds fa Ws Es : Int → Int) (hA : PA h a c m ds fa) (hO : LOk c ds) (hT : h t = cO 3 [.ref (t + 1), .ref (t + 2)]) (hW : h (t + 1) = cI 65 Ws) (hE : h (t + 2) = cI 65 Es) (ht : t + 2 < 103) (hat : a + 2 < t ∨ t + 2 < a) (s : Int) (h0 : 0 ≤ s) (hs1 : s < c) (hWs : ∀ e, s < e → e ≤ c → Ws e = wt c ds e) : CT l mX3_chooseEnd 2 0 0 [.ref (t), .ref (a), .int (iI (s))] NN h (vP (fun h' => ∃ Es', h' (t + 1) = cI 65 (ui Ws s (wt c ds s)) ∧ h' (t + 2) = cI 65 Es' ∧ Es' s = nxt c ds s ∧ (∀ j, j ≠ s → Es' j = Es j) ∧ ∀ j, j ≠ t + 1 → j ≠ t + 2 → h' j = h j)) := by
  have hA0 := hA
  obtain ⟨hP, hD, hF, hlt⟩ := hA
  obtain ⟨o1, o2, o3, o4⟩ := id hO
  refine CT.of (by decide) (Nat.le_of_ble_eq_true rfl) ?_
  refine g_al (al2 := [some (.ref (t)), some (.ref (a)), some (.int (iI (s))), none, none, none, none]) rfl ?_
  refine g_iconst (q := 1) dX3_chooseEnd_0 rfl ?_
  refine g_istore_n (q := 2) (al2 := [some (.ref (t)), some (.ref (a)), some (.int (iI (s))), some (.int (iI (0))), none, none, none]) rfl (by decide) rfl rfl dX3_chooseEnd_1 rfl ?_
  refine g_iload_n (q := 3) rfl rfl dX3_chooseEnd_2 rfl ?_
  refine g_iconst (q := 4) dX3_chooseEnd_3 rfl ?_
  refine g_iadd (q := 5) dX3_chooseEnd_4 rfl ?_
  refine g_istore (q := 7) (al2 := [some (.ref (t)), some (.ref (a)), some (.int (iI (s))), some (.int (iI (0))), some (.int (iI (s + 1))), none, none]) (by decide) rfl rfl dX3_chooseEnd_5 rfl ?_
  rw [show (0 : Int) = (mE ds (wt c ds) s (s + 1 - 1 - s).toNat).1 by rw [show s + 1 - 1 - s = 0 by omega]; rfl]
  refine loopG (σ := Int × (Int → Int) × EHp) (P := fun zz => match zz with | (e, Es1, h1) => G l noX mX3_chooseEnd 2 0 0 (vP (fun h' => ∃ Es', h' (t + 1) = cI 65 (ui Ws s (wt c ds s)) ∧ h' (t + 2) = cI 65 Es' ∧ Es' s = nxt c ds s ∧ (∀ j, j ≠ s → Es' j = Es j) ∧ ∀ j, j ≠ t + 1 → j ≠ t + 2 → h' j = h j)) 0 0 7 [some (.ref (t)), some (.ref (a)), some (.int (iI (s))), some (.int (iI ((mE ds (wt c ds) s (e - 1 - s).toNat).1))), some (.int (iI (e))), none, none] [] NN h1) (I := fun zz => match zz with | (e, Es1, h1) => s + 1 ≤ e ∧ e ≤ c + 1 ∧ h1 t = cO 3 [.ref (t + 1), .ref (t + 2)] ∧ h1 (t + 1) = cI 65 Ws ∧ h1 (t + 2) = cI 65 Es1 ∧ (s + 1 < e → Es1 s = (mE ds (wt c ds) s (e - 1 - s).toNat).2) ∧ (∀ j, j ≠ s → Es1 j = Es j) ∧ (∀ j, j ≠ t + 2 → h1 j = h j)) (fun zz => match zz with | (e, Es1, h1) => (c + 1 - e).toNat) ?_ (s + 1, Es, h) ⟨by omega, by omega, hT, hW, hE, fun z => absurd z (by omega), fun _ _ => rfl, fun _ _ => rfl⟩
  rintro ⟨e, Es1, h1⟩ hI ih
  obtain ⟨i1, i2, hT1, hW1, hE1, i6, i7, i8⟩ := hI
  have hA1 : PA h1 a c m ds fa := ⟨by rw [i8 _ (by omega)]; exact hP, by rw [i8 _ (by omega)]; exact hD, by rw [i8 _ (by omega)]; exact hF, hlt⟩
  obtain ⟨hP1, hD1, hF1, -⟩ := id hA1
  refine g_iload (q := 9) rfl dX3_chooseEnd_7 rfl ?_
  refine g_aload_n (q := 10) rfl rfl dX3_chooseEnd_9 rfl ?_
  refine g_get (q := 13) fX3_18r (by show _ < 103; omega) hP1 rfl dX3_chooseEnd_10 rfl ?_
  refine g_icmp_gt (t := 81) (q := 16) ⟨by omega, by omega⟩ ⟨by omega, by omega⟩ dX3_chooseEnd_13 rfl rfl (fun c13 => ?_) (fun c13 => ?_)
  · have e1 : e - 1 - s = c - s := by omega
    have e2 : (mE ds (wt c ds) s (e - 1 - s).toNat).1 = wt c ds s := by rw [e1]; exact (wt_at h0 hs1).symm
    rw [e2]
    refine g_aload_n (q := 82) rfl rfl dX3_chooseEnd_81 rfl ?_
    refine g_get (q := 85) fX3_9r (by show _ < 103; omega) hT1 rfl dX3_chooseEnd_82 rfl ?_
    refine g_iload_n (q := 86) rfl rfl dX3_chooseEnd_85 rfl ?_
    refine g_iload_n (q := 87) rfl rfl dX3_chooseEnd_86 rfl ?_
    refine g_iastore (q := 88) (by show _ < 103; omega) hW1 (by omega) (by omega) (by decide) dX3_chooseEnd_87 rfl ?_
    refine hp_in (fun hh1 ehh1 => ?_)
    have fc2 : hh1 a = cO 4 [.ref (a + 1), .int (iI (c)), .ref (a + 2), .int (iI (m))] := by rw [ehh1, ueh_n (by omega)]; exact hP1
    have fc3 : hh1 (a + 1) = cI 64 ds := by rw [ehh1, ueh_n (by omega)]; exact hD1
    have fc4 : hh1 (a + 2) = cI 384 fa := by rw [ehh1, ueh_n (by omega)]; exact hF1
    have fc5 : hh1 t = cO 3 [.ref (t + 1), .ref (t + 2)] := by rw [ehh1, ueh_n (by omega)]; exact hT1
    have fc6 : hh1 (t + 1) = cI 65 (ui Ws s (wt c ds s)) := by rw [ehh1]; exact ueh_s
    have fc7 : hh1 (t + 2) = cI 65 Es1 := by rw [ehh1, ueh_n (by omega)]; exact hE1
    exact g_vreturn (fun z => NN_f z) (Nat.le_of_ble_eq_true rfl) (Nat.le_of_ble_eq_true rfl) dX3_chooseEnd_88 rfl (vP_in ⟨Es1, fc6, fc7, by rw [i6 (by omega), e1]; rfl, i7, fun j j1 j2 => by rw [ehh1, ueh_n j1]; exact i8 j j2⟩)
  · obtain ⟨g1, g2⟩ := hO.wid h0 (show s < e by omega) (show e ≤ c by omega)
    have ps := psz_rng hO h0 (show s < e by omega) (show e ≤ c by omega)
    have wr := wt_rng' hO (show 0 ≤ e by omega) (show e ≤ c by omega)
    have ewe := hWs e (by omega) (by omega)
    refine g_iload (q := 18) rfl dX3_chooseEnd_16 rfl ?_
    refine g_iload_n (q := 19) rfl rfl dX3_chooseEnd_18 rfl ?_
    refine g_isub (q := 20) dX3_chooseEnd_19 rfl ?_
    refine g_aload_n (q := 21) rfl rfl dX3_chooseEnd_20 rfl ?_
    refine g_iload_n (q := 22) rfl rfl dX3_chooseEnd_21 rfl ?_
    refine g_iload (q := 24) rfl dX3_chooseEnd_22 rfl ?_
    refine g_Vr (q := 27) (d' := 1) (i := a) (av := [.int (iI (s)), .int (iI (e))]) (st := [.int (iI (e - s))]) (v := .int (iI (ds (e - 1) - ds s + 1))) kvX3_35 (t_X4_widthBetween l h1 a c m ds fa hA1 hO s e h0 (by omega) (by omega)) (by show _ < 103; omega) hP1 rfl (Nat.le_of_ble_eq_true rfl) ⟨(Nat.le_of_ble_eq_true rfl), (Nat.le_of_ble_eq_true rfl)⟩ ⟨(Nat.le_of_ble_eq_true rfl), (Nat.le_of_ble_eq_true rfl)⟩ rfl rfl dX3_chooseEnd_24 rfl ?_
    refine g_Sr (q := 30) (d' := 1) (av := [.int (iI (e - s)), .int (iI (ds (e - 1) - ds s + 1))]) (st := []) (v := .int (iI (psz ds s e))) ksX3_39 (t_X5_bestSize l (e - s) (ds (e - 1) - ds s + 1) (by omega) (by omega) g1 g2 h1) rfl (Nat.le_of_ble_eq_true rfl) ⟨(Nat.le_of_ble_eq_true rfl), (Nat.le_of_ble_eq_true rfl)⟩ ⟨(Nat.le_of_ble_eq_true rfl), (Nat.le_of_ble_eq_true rfl)⟩ rfl rfl dX3_chooseEnd_27 rfl ?_
    refine g_istore (q := 32) (al2 := [some (.ref (t)), some (.ref (a)), some (.int (iI (s))), some (.int (iI ((mE ds (wt c ds) s (e - 1 - s).toNat).1))), some (.int (iI (e))), some (.int (iI (psz ds s e))), none]) (by decide) rfl rfl dX3_chooseEnd_30 rfl ?_
    refine g_iload (q := 34) rfl dX3_chooseEnd_32 rfl ?_
    refine g_sipush (q := 37) (by decide) dX3_chooseEnd_34 rfl ?_
    refine g_imul (q := 38) dX3_chooseEnd_37 rfl ?_
    refine g_iconst (q := 39) dX3_chooseEnd_38 rfl ?_
    refine g_iadd (q := 40) dX3_chooseEnd_39 rfl ?_
    refine g_aload_n (q := 41) rfl rfl dX3_chooseEnd_40 rfl ?_
    refine g_get (q := 44) fX3_9r (by show _ < 103; omega) hT1 rfl dX3_chooseEnd_41 rfl ?_
    refine g_iload (q := 46) rfl dX3_chooseEnd_44 rfl ?_
    refine g_iaload (q := 47) (by show _ < 103; omega) hW1 (by omega) (by omega) (by decide) dX3_chooseEnd_46 rfl ?_
    refine g_iadd (q := 48) dX3_chooseEnd_47 rfl ?_
    refine g_istore (q := 50) (al2 := [some (.ref (t)), some (.ref (a)), some (.int (iI (s))), some (.int (iI ((mE ds (wt c ds) s (e - 1 - s).toNat).1))), some (.int (iI (e))), some (.int (iI (psz ds s e))), some (.int (iI ((((psz ds s e) * 128) + 1) + (Ws e))))]) (by decide) rfl rfl dX3_chooseEnd_48 rfl ?_
    refine g_iload (q := 52) rfl dX3_chooseEnd_50 rfl ?_
    refine g_iload_n (q := 53) rfl rfl dX3_chooseEnd_52 rfl ?_
    refine g_iconst (q := 54) dX3_chooseEnd_53 rfl ?_
    refine g_iadd (q := 55) dX3_chooseEnd_54 rfl ?_
    have eg : psz ds s e * 128 + 1 + Ws e = gW ds (wt c ds) s e := by unfold gW; rw [ewe]
    have st := mE_step (ds := ds) (W := wt c ds) (show s < e by omega)
    refine g_icmp_eq (t := 64) (q := 58) ⟨by omega, by omega⟩ ⟨by omega, by omega⟩ dX3_chooseEnd_55 rfl rfl (fun c55 => ?_) (fun c55 => ?_)
    · refine g_iload (q := 66) rfl dX3_chooseEnd_64 rfl ?_
      refine g_istore_n (q := 67) (al2 := [some (.ref (t)), some (.ref (a)), some (.int (iI (s))), some (.int (iI ((((psz ds s e) * 128) + 1) + (Ws e)))), some (.int (iI (e))), some (.int (iI (psz ds s e))), some (.int (iI ((((psz ds s e) * 128) + 1) + (Ws e))))]) rfl (by decide) rfl rfl dX3_chooseEnd_66 rfl ?_
      refine g_aload_n (q := 68) rfl rfl dX3_chooseEnd_67 rfl ?_
      refine g_get (q := 71) fX3_15r (by show _ < 103; omega) hT1 rfl dX3_chooseEnd_68 rfl ?_
      refine g_iload_n (q := 72) rfl rfl dX3_chooseEnd_71 rfl ?_
      refine g_iload (q := 74) rfl dX3_chooseEnd_72 rfl ?_
      refine g_iastore (q := 75) (by show _ < 103; omega) hE1 (by omega) (by omega) (by decide) dX3_chooseEnd_74 rfl ?_
      refine hp_in (fun hh8 ehh8 => ?_)
      have fc9 : hh8 a = cO 4 [.ref (a + 1), .int (iI (c)), .ref (a + 2), .int (iI (m))] := by rw [ehh8, ueh_n (by omega)]; exact hP1
      have fc10 : hh8 (a + 1) = cI 64 ds := by rw [ehh8, ueh_n (by omega)]; exact hD1
      have fc11 : hh8 (a + 2) = cI 384 fa := by rw [ehh8, ueh_n (by omega)]; exact hF1
      have fc12 : hh8 t = cO 3 [.ref (t + 1), .ref (t + 2)] := by rw [ehh8, ueh_n (by omega)]; exact hT1
      have fc13 : hh8 (t + 1) = cI 65 Ws := by rw [ehh8, ueh_n (by omega)]; exact hW1
      have fc14 : hh8 (t + 2) = cI 65 (ui Es1 s e) := by rw [ehh8]; exact ueh_s
      refine g_iinc (q := 78) (al2 := [some (.ref (t)), some (.ref (a)), some (.int (iI (s))), some (.int (iI ((((psz ds s e) * 128) + 1) + (Ws e)))), some (.int (iI (e + 1))), some (.int (iI (psz ds s e))), some (.int (iI ((((psz ds s e) * 128) + 1) + (Ws e))))]) rfl (by decide) rfl rfl dX3_chooseEnd_75 rfl ?_
      refine g_goto (q := 7) dX3_chooseEnd_78 rfl ?_
      refine g_drop (al2 := [some (.ref (t)), some (.ref (a)), some (.int (iI (s))), some (.int (iI ((((psz ds s e) * 128) + 1) + (Ws e)))), some (.int (iI (e + 1))), none, some (.int (iI ((((psz ds s e) * 128) + 1) + (Ws e))))]) 5 rfl ?_
      refine g_drop (al2 := [some (.ref (t)), some (.ref (a)), some (.int (iI (s))), some (.int (iI ((((psz ds s e) * 128) + 1) + (Ws e)))), some (.int (iI (e + 1))), none, none]) 6 rfl ?_
      have e3 : mE ds (wt c ds) s (e - s).toNat = (gW ds (wt c ds) s e, e) := by rw [st, if_pos (Or.inl c55)]
      have := ih (e + 1, ui Es1 s e, hh8) ⟨by omega, by omega, fc12, fc13, fc14, fun _ => by rw [ui_s, show e + 1 - 1 - s = e - s by omega, e3], fun j jj => by rw [ui_n jj]; exact i7 j jj, fun j jj => by rw [ehh8, ueh_n jj]; exact i8 j jj⟩ (show (c + 1 - (e + 1)).toNat < (c + 1 - e).toNat by omega)
      dsimp only at this
      rw [show e + 1 - 1 - s = e - s by omega, e3, ← eg] at this
      exact this
    · obtain ⟨b1, b2, b3, b4⟩ := mE_rng (ds := ds) (W := wt c ds) (i := s) (n := (e - 1 - s).toNat) (by omega)
      have wr2 := wt_rng' hO (show 0 ≤ (mE ds (wt c ds) s (e - 1 - s).toNat).2 by omega) (by omega)
      have ps2 := psz_rng hO h0 b1 (by omega)
      have b5 : (mE ds (wt c ds) s (e - 1 - s).toNat).1 = psz ds s (mE ds (wt c ds) s (e - 1 - s).toNat).2 * 128 + 1 + wt c ds (mE ds (wt c ds) s (e - 1 - s).toNat).2 := b3
      refine g_iload (q := 60) rfl dX3_chooseEnd_58 rfl ?_
      refine g_iload_n (q := 61) rfl rfl dX3_chooseEnd_60 rfl ?_
      refine g_icmp_ge (t := 75) (q := 64) ⟨by omega, by omega⟩ ⟨by omega, by omega⟩ dX3_chooseEnd_61 rfl rfl (fun c61 => ?_) (fun c61 => ?_)
      · refine g_iinc (q := 78) (al2 := [some (.ref (t)), some (.ref (a)), some (.int (iI (s))), some (.int (iI ((mE ds (wt c ds) s (e - 1 - s).toNat).1))), some (.int (iI (e + 1))), some (.int (iI (psz ds s e))), some (.int (iI ((((psz ds s e) * 128) + 1) + (Ws e))))]) rfl (by decide) rfl rfl dX3_chooseEnd_75 rfl ?_
        refine g_goto (q := 7) dX3_chooseEnd_78 rfl ?_
        refine g_drop (al2 := [some (.ref (t)), some (.ref (a)), some (.int (iI (s))), some (.int (iI ((mE ds (wt c ds) s (e - 1 - s).toNat).1))), some (.int (iI (e + 1))), none, some (.int (iI ((((psz ds s e) * 128) + 1) + (Ws e))))]) 5 rfl ?_
        refine g_drop (al2 := [some (.ref (t)), some (.ref (a)), some (.int (iI (s))), some (.int (iI ((mE ds (wt c ds) s (e - 1 - s).toNat).1))), some (.int (iI (e + 1))), none, none]) 6 rfl ?_
        have e3 : mE ds (wt c ds) s (e - s).toNat = mE ds (wt c ds) s (e - 1 - s).toNat := by rw [st, if_neg (by intro z; rcases z with z | z <;> omega)]
        have := ih (e + 1, Es1, h1) ⟨by omega, by omega, hT1, hW1, hE1, fun _ => by rw [show e + 1 - 1 - s = e - s by omega, e3]; exact i6 (by omega), i7, i8⟩ (show (c + 1 - (e + 1)).toNat < (c + 1 - e).toNat by omega)
        dsimp only at this
        rw [show e + 1 - 1 - s = e - s by omega, e3] at this
        exact this
      · refine g_iload (q := 66) rfl dX3_chooseEnd_64 rfl ?_
        refine g_istore_n (q := 67) (al2 := [some (.ref (t)), some (.ref (a)), some (.int (iI (s))), some (.int (iI ((((psz ds s e) * 128) + 1) + (Ws e)))), some (.int (iI (e))), some (.int (iI (psz ds s e))), some (.int (iI ((((psz ds s e) * 128) + 1) + (Ws e))))]) rfl (by decide) rfl rfl dX3_chooseEnd_66 rfl ?_
        refine g_aload_n (q := 68) rfl rfl dX3_chooseEnd_67 rfl ?_
        refine g_get (q := 71) fX3_15r (by show _ < 103; omega) hT1 rfl dX3_chooseEnd_68 rfl ?_
        refine g_iload_n (q := 72) rfl rfl dX3_chooseEnd_71 rfl ?_
        refine g_iload (q := 74) rfl dX3_chooseEnd_72 rfl ?_
        refine g_iastore (q := 75) (by show _ < 103; omega) hE1 (by omega) (by omega) (by decide) dX3_chooseEnd_74 rfl ?_
        refine hp_in (fun hh15 ehh15 => ?_)
        have fc16 : hh15 a = cO 4 [.ref (a + 1), .int (iI (c)), .ref (a + 2), .int (iI (m))] := by rw [ehh15, ueh_n (by omega)]; exact hP1
        have fc17 : hh15 (a + 1) = cI 64 ds := by rw [ehh15, ueh_n (by omega)]; exact hD1
        have fc18 : hh15 (a + 2) = cI 384 fa := by rw [ehh15, ueh_n (by omega)]; exact hF1
        have fc19 : hh15 t = cO 3 [.ref (t + 1), .ref (t + 2)] := by rw [ehh15, ueh_n (by omega)]; exact hT1
        have fc20 : hh15 (t + 1) = cI 65 Ws := by rw [ehh15, ueh_n (by omega)]; exact hW1
        have fc21 : hh15 (t + 2) = cI 65 (ui Es1 s e) := by rw [ehh15]; exact ueh_s
        refine g_iinc (q := 78) (al2 := [some (.ref (t)), some (.ref (a)), some (.int (iI (s))), some (.int (iI ((((psz ds s e) * 128) + 1) + (Ws e)))), some (.int (iI (e + 1))), some (.int (iI (psz ds s e))), some (.int (iI ((((psz ds s e) * 128) + 1) + (Ws e))))]) rfl (by decide) rfl rfl dX3_chooseEnd_75 rfl ?_
        refine g_goto (q := 7) dX3_chooseEnd_78 rfl ?_
        refine g_drop (al2 := [some (.ref (t)), some (.ref (a)), some (.int (iI (s))), some (.int (iI ((((psz ds s e) * 128) + 1) + (Ws e)))), some (.int (iI (e + 1))), none, some (.int (iI ((((psz ds s e) * 128) + 1) + (Ws e))))]) 5 rfl ?_
        refine g_drop (al2 := [some (.ref (t)), some (.ref (a)), some (.int (iI (s))), some (.int (iI ((((psz ds s e) * 128) + 1) + (Ws e)))), some (.int (iI (e + 1))), none, none]) 6 rfl ?_
        have e3 : mE ds (wt c ds) s (e - s).toNat = (gW ds (wt c ds) s e, e) := by rw [st, if_pos (Or.inr (by omega))]
        have := ih (e + 1, ui Es1 s e, hh15) ⟨by omega, by omega, fc19, fc20, fc21, fun _ => by rw [ui_s, show e + 1 - 1 - s = e - s by omega, e3], fun j jj => by rw [ui_n jj]; exact i7 j jj, fun j jj => by rw [ehh15, ueh_n jj]; exact i8 j jj⟩ (show (c + 1 - (e + 1)).toNat < (c + 1 - e).toNat by omega)
        dsimp only at this
        rw [show e + 1 - 1 - s = e - s by omega, e3, ← eg] at this
        exact this
set_option maxRecDepth 4000 in
theorem t_X3_divide (l : Launch) (h : EHp) (t a : Nat) (c m : Int) (ds fa Ws Es : Int → Int) (hA : PA h a c m ds fa) (hO : LOk c ds) (hT : h t = cO 3 [.ref (t + 1), .ref (t + 2)]) (hW : h (t + 1) = cI 65 Ws) (hE : h (t + 2) = cI 65 Es) (ht : t + 2 < 103) (hat : a + 2 < t ∨ t + 2 < a) : CT l mX3_divide 3 0 0 [.ref (t), .ref (a)] NN h (vP (fun h' => ∃ (m' : Nat) (fa' Ws' Es' : Int → Int), PA h' a c m' ds fa' ∧ FOk c ds m' fa' ∧ h' (t + 1) = cI 65 Ws' ∧ h' (t + 2) = cI 65 Es' ∧ ∀ j, (j < a ∨ a + 2 < j) → j ≠ t + 1 → j ≠ t + 2 → h' j = h j)) := by
  obtain ⟨hP, hD, hF, hlt⟩ := hA
  obtain ⟨o1, o2, o3, o4⟩ := id hO
  refine CT.of (by decide) (Nat.le_of_ble_eq_true rfl) ?_
  refine g_al (al2 := [some (.ref (t)), some (.ref (a)), none, none, none]) rfl ?_
  refine g_aload_n (q := 1) rfl rfl dX3_divide_0 rfl ?_
  refine g_get (q := 4) fX3_18r (by show _ < 103; omega) hP rfl dX3_divide_1 rfl ?_
  refine g_istore_n (q := 5) (al2 := [some (.ref (t)), some (.ref (a)), some (.int (iI (c))), none, none]) rfl (by decide) rfl rfl dX3_divide_4 rfl ?_
  refine g_aload_n (q := 6) rfl rfl dX3_divide_5 rfl ?_
  refine g_get (q := 9) fX3_9r (by show _ < 103; omega) hT rfl dX3_divide_6 rfl ?_
  refine g_iload_n (q := 10) rfl rfl dX3_divide_9 rfl ?_
  refine g_iconst (q := 11) dX3_divide_10 rfl ?_
  refine g_iastore (q := 12) (by show _ < 103; omega) hW (by omega) (by omega) (by decide) dX3_divide_11 rfl ?_
  refine hp_in (fun hh1 ehh1 => ?_)
  have fc2 : hh1 a = cO 4 [.ref (a + 1), .int (iI (c)), .ref (a + 2), .int (iI (m))] := by rw [ehh1, ueh_n (by omega)]; exact hP
  have fc3 : hh1 (a + 1) = cI 64 ds := by rw [ehh1, ueh_n (by omega)]; exact hD
  have fc4 : hh1 (a + 2) = cI 384 fa := by rw [ehh1, ueh_n (by omega)]; exact hF
  have fc5 : hh1 t = cO 3 [.ref (t + 1), .ref (t + 2)] := by rw [ehh1, ueh_n (by omega)]; exact hT
  have fc6 : hh1 (t + 1) = cI 65 (ui Ws c 0) := by rw [ehh1]; exact ueh_s
  have fc7 : hh1 (t + 2) = cI 65 Es := by rw [ehh1, ueh_n (by omega)]; exact hE
  refine g_iload_n (q := 13) rfl rfl dX3_divide_12 rfl ?_
  refine g_iconst (q := 14) dX3_divide_13 rfl ?_
  refine g_isub (q := 15) dX3_divide_14 rfl ?_
  refine g_istore_n (q := 16) (al2 := [some (.ref (t)), some (.ref (a)), some (.int (iI (c))), some (.int (iI (c - 1))), none]) rfl (by decide) rfl rfl dX3_divide_15 rfl ?_
  refine loopG (σ := Int × (Int → Int) × (Int → Int) × EHp) (P := fun zz => match zz with | (s, Ws1, Es1, h1) => G l noX mX3_divide 3 0 0 (vP (fun h' => ∃ (m' : Nat) (fa' Ws' Es' : Int → Int), PA h' a c m' ds fa' ∧ FOk c ds m' fa' ∧ h' (t + 1) = cI 65 Ws' ∧ h' (t + 2) = cI 65 Es' ∧ ∀ j, (j < a ∨ a + 2 < j) → j ≠ t + 1 → j ≠ t + 2 → h' j = h j)) 0 0 16 [some (.ref (t)), some (.ref (a)), some (.int (iI (c))), some (.int (iI (s))), none] [] NN h1) (I := fun zz => match zz with | (s, Ws1, Es1, h1) => -1 ≤ s ∧ s < c ∧ PA h1 a c m ds fa ∧ h1 t = cO 3 [.ref (t + 1), .ref (t + 2)] ∧ h1 (t + 1) = cI 65 Ws1 ∧ h1 (t + 2) = cI 65 Es1 ∧ (∀ e, s < e → e ≤ c → Ws1 e = wt c ds e) ∧ (∀ e, s < e → e < c → Es1 e = nxt c ds e) ∧ (∀ j, j ≠ t + 1 → j ≠ t + 2 → h1 j = h j)) (fun zz => match zz with | (s, Ws1, Es1, h1) => (s + 1).toNat) ?_ (c - 1, ui Ws c 0, Es, hh1) ⟨by omega, by omega, ⟨fc2, fc3, fc4, hlt⟩, fc5, fc6, fc7, fun e e1 e2 => by rw [show e = c by omega, ui_s, wt_end o1], fun e e1 e2 => absurd e1 (by omega), fun j j1 j2 => by rw [ehh1, ueh_n j1]⟩
  rintro ⟨s, Ws1, Es1, h1⟩ hI ih
  obtain ⟨i1, i2, hA1, hT1, hW1, hE1, i7, i8, i9⟩ := hI
  obtain ⟨hP1, hD1, hF1, -⟩ := id hA1
  refine g_iload_n (q := 17) rfl rfl dX3_divide_16 rfl ?_
  refine g_if_lt (t := 32) (q := 20) ⟨by omega, by omega⟩ dX3_divide_17 rfl rfl (fun c17 => ?_) (fun c17 => ?_)
  · have es : s = -1 := by omega
    subst es
    refine g_aload_n (q := 33) rfl rfl dX3_divide_32 rfl ?_
    refine g_iconst (q := 34) dX3_divide_33 rfl ?_
    refine g_put (q := 37) fX3_28 (by show _ < 103; omega) hP1 (Nat.le_of_ble_eq_true rfl) (fun _ _ => rfl) (fun _ _ => rfl) dX3_divide_34 rfl ?_
    refine hp_in (fun hh8 ehh8 => ?_)
    have fc9 : hh8 a = cO 4 [.ref (a + 1), .int (iI (c)), .ref (a + 2), .int (iI (0))] := by rw [ehh8]; exact ueh_s
    have fc10 : hh8 (a + 1) = cI 64 ds := by rw [ehh8, ueh_n (by omega)]; exact hD1
    have fc11 : hh8 (a + 2) = cI 384 fa := by rw [ehh8, ueh_n (by omega)]; exact hF1
    have fc12 : hh8 t = cO 3 [.ref (t + 1), .ref (t + 2)] := by rw [ehh8, ueh_n (by omega)]; exact hT1
    have fc13 : hh8 (t + 1) = cI 65 Ws1 := by rw [ehh8, ueh_n (by omega)]; exact hW1
    have fc14 : hh8 (t + 2) = cI 65 Es1 := by rw [ehh8, ueh_n (by omega)]; exact hE1
    refine g_iconst (q := 38) dX3_divide_37 rfl ?_
    refine g_istore_n (q := 39) (al2 := [some (.ref (t)), some (.ref (a)), some (.int (iI (c))), some (.int (iI (0))), none]) rfl (by decide) rfl rfl dX3_divide_38 rfl ?_
    refine g_iconst (q := 40) dX3_divide_39 rfl ?_
    refine g_istore (q := 42) (al2 := [some (.ref (t)), some (.ref (a)), some (.int (iI (c))), some (.int (iI (0))), some (.int (iI (0)))]) (by decide) rfl rfl dX3_divide_40 rfl ?_
    refine loopG (σ := Nat × (Int → Int) × EHp) (P := fun zz => match zz with | (k, fa2, h2) => G l noX mX3_divide 3 0 0 (vP (fun h' => ∃ (m' : Nat) (fa' Ws' Es' : Int → Int), PA h' a c m' ds fa' ∧ FOk c ds m' fa' ∧ h' (t + 1) = cI 65 Ws' ∧ h' (t + 2) = cI 65 Es' ∧ ∀ j, (j < a ∨ a + 2 < j) → j ≠ t + 1 → j ≠ t + 2 → h' j = h j)) 0 0 42 [some (.ref (t)), some (.ref (a)), some (.int (iI (c))), some (.int (iI (pb c ds k))), some (.int (iI (k)))] [] NN h2) (I := fun zz => match zz with | (k, fa2, h2) => k ≤ c.toNat ∧ PA h2 a c k ds fa2 ∧ h2 t = cO 3 [.ref (t + 1), .ref (t + 2)] ∧ h2 (t + 1) = cI 65 Ws1 ∧ h2 (t + 2) = cI 65 Es1 ∧ (∀ i : Nat, i < k → pb c ds i < c) ∧ (∀ i : Nat, i < k → ∀ u, 0 ≤ u → u < 6 → fa2 ((i : Int) * 6 + u) = fct ds (pb c ds i) (pb c ds (i + 1)) u) ∧ (∀ j, (j < a ∨ a + 2 < j) → j ≠ t + 1 → j ≠ t + 2 → h2 j = h j)) (fun zz => match zz with | (k, fa2, h2) => c.toNat - k) ?_ (0, fa, hh8) ⟨Nat.zero_le _, ⟨fc9, fc10, fc11, hlt⟩, fc12, fc13, fc14, fun i z => absurd z (Nat.not_lt_zero _), fun i z => absurd z (Nat.not_lt_zero _), fun j j0 j1 j2 => by rw [ehh8, ueh_n (by omega)]; exact i9 j j1 j2⟩
    rintro ⟨k, fa2, h2⟩ hI ih
    obtain ⟨k1, hA2, hT2, hW2, hE2, k6, k7, k8⟩ := hI
    obtain ⟨hP2, hD2, hF2, -⟩ := id hA2
    have pr := pb_rng (ds := ds) o1 k
    refine g_iload (q := 44) rfl dX3_divide_42 rfl ?_
    refine g_iload_n (q := 45) rfl rfl dX3_divide_44 rfl ?_
    refine g_icmp_ge (t := 77) (q := 48) ⟨by omega, by omega⟩ ⟨by omega, by omega⟩ dX3_divide_45 rfl rfl (fun c45 => ?_) (fun c45 => ?_)
    · exact g_vreturn (fun z => NN_f z) (Nat.le_of_ble_eq_true rfl) (Nat.le_of_ble_eq_true rfl) dX3_divide_77 rfl (vP_in ⟨k, fa2, Ws1, Es1, hA2, ⟨by omega, k6, by have := pr.2.2 (by omega); omega, k7⟩, hW2, hE2, k8⟩)
    · refine g_iload_n (q := 49) rfl rfl dX3_divide_48 rfl ?_
      refine g_iload_n (q := 50) rfl rfl dX3_divide_49 rfl ?_
      refine g_icmp_ge (t := 77) (q := 53) ⟨by omega, by omega⟩ ⟨by omega, by omega⟩ dX3_divide_50 rfl rfl (fun c50 => ?_) (fun c50 => ?_)
      · exact g_vreturn (fun z => NN_f z) (Nat.le_of_ble_eq_true rfl) (Nat.le_of_ble_eq_true rfl) dX3_divide_77 rfl (vP_in ⟨k, fa2, Ws1, Es1, hA2, ⟨by omega, k6, by omega, k7⟩, hW2, hE2, k8⟩)
      · have nr := nxt_rng (ds := ds) (show pb c ds k < c by omega)
        have en : Es1 (pb c ds k) = nxt c ds (pb c ds k) := i8 _ (by omega) (by omega)
        have ps := pb_s (ds := ds) (show pb c ds k < c by omega)
        refine g_aload_n (q := 54) rfl rfl dX3_divide_53 rfl ?_
        refine g_iload_n (q := 55) rfl rfl dX3_divide_54 rfl ?_
        refine g_aload_n (q := 56) rfl rfl dX3_divide_55 rfl ?_
        refine g_get (q := 59) fX3_15r (by show _ < 103; omega) hT2 rfl dX3_divide_56 rfl ?_
        refine g_iload_n (q := 60) rfl rfl dX3_divide_59 rfl ?_
        refine g_iaload (q := 61) (by show _ < 103; omega) hE2 (by omega) (by omega) (by decide) dX3_divide_60 rfl ?_
        rw [en]
        refine g_Vv (q := 64) (d' := 2) (i := a) (av := [.int (iI (pb c ds k)), .int (iI (nxt c ds (pb c ds k)))]) (st := []) kvX3_31 (t_X4_addPart l h2 a c k ds fa2 hA2 hO (pb c ds k) (nxt c ds (pb c ds k)) pr.1 nr.1 nr.2 (by omega) (by omega)) (by show _ < 103; omega) hP2 rfl (Nat.le_of_ble_eq_true rfl) ⟨(Nat.le_of_ble_eq_true rfl), (Nat.le_of_ble_eq_true rfl)⟩ ⟨(Nat.le_of_ble_eq_true rfl), (Nat.le_of_ble_eq_true rfl)⟩ rfl rfl dX3_divide_61 rfl (fun h3 hp => ?_)
        obtain ⟨fa3, hA3, q1, q2, q3⟩ := hp
        obtain ⟨hP3, hD3, hF3, -⟩ := id hA3
        have hT3 : h3 t = cO 3 [.ref (t + 1), .ref (t + 2)] := by rw [q3 _ (by omega)]; exact hT2
        have hW3 : h3 (t + 1) = cI 65 Ws1 := by rw [q3 _ (by omega)]; exact hW2
        have hE3 : h3 (t + 2) = cI 65 Es1 := by rw [q3 _ (by omega)]; exact hE2
        refine g_aload_n (q := 65) rfl rfl dX3_divide_64 rfl ?_
        refine g_get (q := 68) fX3_15r (by show _ < 103; omega) hT3 rfl dX3_divide_65 rfl ?_
        refine g_iload_n (q := 69) rfl rfl dX3_divide_68 rfl ?_
        refine g_iaload (q := 70) (by show _ < 103; omega) hE3 (by omega) (by omega) (by decide) dX3_divide_69 rfl ?_
        rw [en, ← ps]
        refine g_istore_n (q := 71) (al2 := [some (.ref (t)), some (.ref (a)), some (.int (iI (c))), some (.int (iI (pb c ds (k + 1)))), some (.int (iI (k)))]) rfl (by decide) rfl rfl dX3_divide_70 rfl ?_
        refine g_iinc (q := 74) (al2 := [some (.ref (t)), some (.ref (a)), some (.int (iI (c))), some (.int (iI (pb c ds (k + 1)))), some (.int (iI (k + 1)))]) rfl (by decide) rfl rfl dX3_divide_71 rfl ?_
        refine g_goto (q := 42) dX3_divide_74 rfl ?_
        exact ih (k + 1, fa3, h3) ⟨show k + 1 ≤ c.toNat by omega, hA3, hT3, hW3, hE3, fun i hi => by
          by_cases e : i = k
          · rw [e]; omega
          · exact k6 i (by omega), fun i hi u u0 u6 => by
          by_cases e : i = k
          · subst e; rw [ps]; exact q2 u u0 u6
          · rw [q1 _ (by omega)]; exact k7 i (by omega) u u0 u6, fun j j0 j1 j2 => by rw [q3 j j0]; exact k8 j j0 j1 j2⟩ (show c.toNat - (k + 1) < c.toNat - k by omega)
  · refine g_aload_n (q := 21) rfl rfl dX3_divide_20 rfl ?_
    refine g_aload_n (q := 22) rfl rfl dX3_divide_21 rfl ?_
    refine g_iload_n (q := 23) rfl rfl dX3_divide_22 rfl ?_
    refine g_Vv (q := 26) (d' := 2) (i := t) (av := [.ref (a), .int (iI (s))]) (st := []) kvX3_24 (t_X3_chooseEnd l h1 t a c m ds fa Ws1 Es1 hA1 hO hT1 hW1 hE1 ht hat s (by omega) i2 i7) (by show _ < 103; omega) hT1 rfl (Nat.le_of_ble_eq_true rfl) ⟨(Nat.le_of_ble_eq_true rfl), (Nat.le_of_ble_eq_true rfl)⟩ ⟨(Nat.le_of_ble_eq_true rfl), (Nat.le_of_ble_eq_true rfl)⟩ rfl rfl dX3_divide_23 rfl (fun h2 hp => ?_)
    obtain ⟨Es2, q1, q2, q3, q4, q5⟩ := hp
    have hA2 : PA h2 a c m ds fa := ⟨by rw [q5 _ (by omega) (by omega)]; exact hP1, by rw [q5 _ (by omega) (by omega)]; exact hD1, by rw [q5 _ (by omega) (by omega)]; exact hF1, hlt⟩
    refine g_iinc (q := 29) (al2 := [some (.ref (t)), some (.ref (a)), some (.int (iI (c))), some (.int (iI (s + -1))), none]) rfl (by decide) rfl rfl dX3_divide_26 rfl ?_
    refine g_goto (q := 16) dX3_divide_29 rfl ?_
    exact ih (s + -1, ui Ws1 s (wt c ds s), Es2, h2) ⟨by omega, by omega, hA2, by rw [q5 _ (by omega) (by omega)]; exact hT1, q1, q2, fun e e1 e2 => by
      by_cases z : e = s
      · rw [z, ui_s]
      · rw [ui_n z]; exact i7 e (by omega) e2, fun e e1 e2 => by
      by_cases z : e = s
      · rw [z, q3]
      · rw [q4 e z]; exact i8 e (by omega) e2, fun j j1 j2 => by rw [q5 j j1 j2]; exact i9 j j1 j2⟩ (show (s + -1 + 1).toNat < (s + 1).toNat by omega)
