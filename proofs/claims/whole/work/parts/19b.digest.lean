/-! ===== digest ===== -/
set_option maxRecDepth 4000 in
theorem t_X7_mix (l : Launch) (h : EHp) (a : Int64) (v : Int) : CT l mX7_mix 0 0 0 [.long (a), .int (iI (v))] NN h (rP (.long (mx a v)) h) := by
  refine CT.of (by decide) (Nat.le_of_ble_eq_true rfl) ?_
  refine g_al (al2 := [some (.long (a)), none, some (.int (iI (v)))]) rfl ?_
  refine g_ldc2 (q := 3) tw_187 dX7_mix_0 rfl ?_
  refine g_lload_n (q := 4) rfl rfl dX7_mix_3 rfl ?_
  refine g_lmul (q := 5) dX7_mix_4 rfl ?_
  refine g_iload_n (q := 6) rfl rfl dX7_mix_5 rfl ?_
  refine g_i2l (q := 7) dX7_mix_6 rfl ?_
  refine g_ladd (q := 8) dX7_mix_7 rfl ?_
  exact g_lreturn (fun z => NN_f z) (Nat.le_of_ble_eq_true rfl) (Nat.le_of_ble_eq_true rfl) dX7_mix_8 rfl rP_in
set_option maxRecDepth 4000 in
theorem t_X7_mixRow (l : Launch) (h : EHp) (a : Int64) (r k : Nat) (f : Int → Int) (n : Nat) (hh : h r = cI k f) (hr : r < 103) (hn : n ≤ k) (hk : k ≤ 1000) : CT l mX7_mixRow 1 0 0 [.long (a), .ref (r), .int (iI (n))] NN h (rP (.long (mxR a f n)) h) := by
  refine CT.of (by decide) (Nat.le_of_ble_eq_true rfl) ?_
  refine g_al (al2 := [some (.long (a)), none, some (.ref (r)), some (.int (iI (n))), none, none, none]) rfl ?_
  refine g_lload_n (q := 1) rfl rfl dX7_mixRow_0 rfl ?_
  refine g_lstore (q := 3) (al2 := [some (.long (a)), none, some (.ref (r)), some (.int (iI (n))), some (.long (a)), none, none]) (by decide) rfl rfl dX7_mixRow_1 rfl ?_
  refine g_iconst (q := 4) dX7_mixRow_3 rfl ?_
  refine g_istore (q := 6) (al2 := [some (.long (a)), none, some (.ref (r)), some (.int (iI (n))), some (.long (a)), none, some (.int (iI (0)))]) (by decide) rfl rfl dX7_mixRow_4 rfl ?_
  refine loopG (σ := Nat) (P := fun i => G l noX mX7_mixRow 1 0 0 (rP (.long (mxR a f n)) h) 0 0 6 [some (.long (a)), none, some (.ref (r)), some (.int (iI (n))), some (.long (mxR a f i)), none, some (.int (iI (i)))] [] NN h) (I := fun i => i ≤ n) (fun i => n - i) ?_ 0 (Nat.zero_le _)
  intro i hI ih
  refine g_iload (q := 8) rfl dX7_mixRow_6 rfl ?_
  refine g_iload_n (q := 9) rfl rfl dX7_mixRow_8 rfl ?_
  refine g_icmp_ge (t := 29) (q := 12) ⟨by omega, by omega⟩ ⟨by omega, by omega⟩ dX7_mixRow_9 rfl rfl (fun c9 => ?_) (fun c9 => ?_)
  · have e : i = n := by omega
    subst e
    refine g_lload (q := 31) rfl dX7_mixRow_29 rfl ?_
    exact g_lreturn (fun z => NN_f z) (Nat.le_of_ble_eq_true rfl) (Nat.le_of_ble_eq_true rfl) dX7_mixRow_31 rfl rP_in
  · refine g_lload (q := 14) rfl dX7_mixRow_12 rfl ?_
    refine g_aload_n (q := 15) rfl rfl dX7_mixRow_14 rfl ?_
    refine g_iload (q := 17) rfl dX7_mixRow_15 rfl ?_
    refine g_iaload (q := 18) hr hh (by omega) (by omega) (by omega) dX7_mixRow_17 rfl ?_
    refine g_Sr (q := 21) (d' := 0) (av := [.long (mxR a f i), .int (iI (f i))]) (st := []) (v := .long (mxR a f (i + 1))) ksX7_185 (t_X7_mix l h (mxR a f i) (f i)) rfl (Nat.le_of_ble_eq_true rfl) ⟨(Nat.le_of_ble_eq_true rfl), (Nat.le_of_ble_eq_true rfl)⟩ ⟨(Nat.le_of_ble_eq_true rfl), (Nat.le_of_ble_eq_true rfl)⟩ rfl rfl dX7_mixRow_18 rfl ?_
    refine g_lstore (q := 23) (al2 := [some (.long (a)), none, some (.ref (r)), some (.int (iI (n))), some (.long (mxR a f (i + 1))), none, some (.int (iI (i)))]) (by decide) rfl rfl dX7_mixRow_21 rfl ?_
    refine g_iinc (q := 26) (al2 := [some (.long (a)), none, some (.ref (r)), some (.int (iI (n))), some (.long (mxR a f (i + 1))), none, some (.int (iI (i + 1)))]) rfl (by decide) rfl rfl dX7_mixRow_23 rfl ?_
    refine g_goto (q := 6) dX7_mixRow_26 rfl ?_
    exact ih (i + 1) (show i + 1 ≤ n by omega) (show n - (i + 1) < n - i by omega)
set_option maxRecDepth 4000 in
theorem t_X7_mixList (l : Launch) (h : EHp) (S : ASt) (sv : List ASt) (hC : CRep h S sv) (i : Nat) (hi : i < 4) (a : Int64) : CT l mX7_mixList 4 0 0 [.ref (0), .long (a), .ref (5 + 3 * i)] NN h (wP (fun v h' => v = .long (dgL a (S.1 i).1 (S.1 i).2) ∧ CRep h' S sv ∧ FrC h h')) := by
  obtain ⟨g0, k1, k2, k4, k5, -⟩ := id hC
  obtain ⟨m, ds, fa, hA, hag, hO, hFO⟩ := k5 i hi trivial
  have hOd := ag_LOk hag hO
  obtain ⟨o1, o2, o3, o4⟩ := id hO
  have em := hFO.pn
  have hm := hFO.1
  obtain ⟨-, -, -, -, -, -, -, ⟨cl, cbs, hR0⟩, -⟩ := id hC
  have hsz := szP_le hO hFO.2.1 (Nat.le_refl m)
  obtain ⟨c9, ec⟩ : ∃ c9 : Nat, (S.1 i).1 = c9 := ⟨(S.1 i).1.toNat, by omega⟩
  refine CT.of (by decide) (Nat.le_of_ble_eq_true rfl) ?_
  refine g_al (al2 := [some (.ref (0)), some (.long (a)), none, some (.ref (5 + 3 * i)), none, none]) rfl ?_
  have agf : Ag (m * 6 : Nat) fa (fcs (S.1 i).1 (S.1 i).2) := fun t x y => by
    have := hFO.2.2.2 (t / 6).toNat (by omega) (t % 6) (by omega) (by omega)
    rw [show (((t / 6).toNat : Nat) : Int) * 6 + t % 6 = t by omega] at this
    exact this
  refine g_lload_n (q := 1) rfl rfl dX7_mixList_0 rfl ?_
  refine g_aload_n (q := 2) rfl rfl dX7_mixList_1 rfl ?_
  refine g_get (q := 5) fX7_69r (by show _ < 103; omega) hA.1 rfl dX7_mixList_2 rfl ?_
  refine g_Sr (q := 8) (d' := 0) (av := [.long (a), .int (iI ((S.1 i).1))]) (st := []) (v := .long (mx a (S.1 i).1)) ksX7_185 (t_X7_mix l h a (S.1 i).1) rfl (Nat.le_of_ble_eq_true rfl) ⟨(Nat.le_of_ble_eq_true rfl), (Nat.le_of_ble_eq_true rfl)⟩ ⟨(Nat.le_of_ble_eq_true rfl), (Nat.le_of_ble_eq_true rfl)⟩ rfl rfl dX7_mixList_5 rfl ?_
  refine g_aload_n (q := 9) rfl rfl dX7_mixList_8 rfl ?_
  refine g_get (q := 12) fX7_218r (by show _ < 103; omega) hA.1 rfl dX7_mixList_9 rfl ?_
  refine g_aload_n (q := 13) rfl rfl dX7_mixList_12 rfl ?_
  refine g_get (q := 16) fX7_69r (by show _ < 103; omega) hA.1 rfl dX7_mixList_13 rfl ?_
  refine g_Sr (q := 19) (d' := 1) (av := [.long (mx a (S.1 i).1), .ref (5 + 3 * i + 1), .int (iI ((S.1 i).1))]) (st := []) (v := .long (mxR (mx a (S.1 i).1) (S.1 i).2 (S.1 i).1.toNat)) ksX7_189 (by have := t_X7_mixRow l h (mx a (S.1 i).1) (5 + 3 * i + 1) 64 ds (S.1 i).1.toNat hA.2.1 (by omega) (by omega) (by omega); rw [show (((S.1 i).1.toNat : Nat) : Int) = (S.1 i).1 by omega, mxR_congr (S.1 i).1.toNat (fun t x y => hag t x (by omega))] at this; exact this) rfl (Nat.le_of_ble_eq_true rfl) ⟨(Nat.le_of_ble_eq_true rfl), (Nat.le_of_ble_eq_true rfl)⟩ ⟨(Nat.le_of_ble_eq_true rfl), (Nat.le_of_ble_eq_true rfl)⟩ rfl rfl dX7_mixList_16 rfl ?_
  refine g_lstore (q := 21) (al2 := [some (.ref (0)), some (.long (a)), none, some (.ref (5 + 3 * i)), some (.long (mxR (mx a (S.1 i).1) (S.1 i).2 (S.1 i).1.toNat)), none]) (by decide) rfl rfl dX7_mixList_19 rfl ?_
  refine g_lload (q := 23) rfl dX7_mixList_21 rfl ?_
  refine g_aload_n (q := 24) rfl rfl dX7_mixList_23 rfl ?_
  refine g_get (q := 27) fX7_107r (by show _ < 103; omega) hA.1 rfl dX7_mixList_24 rfl ?_
  refine g_Sr (q := 30) (d' := 0) (av := [.long (mxR (mx a (S.1 i).1) (S.1 i).2 (S.1 i).1.toNat), .int (iI (m))]) (st := []) (v := .long (mx (mxR (mx a (S.1 i).1) (S.1 i).2 (S.1 i).1.toNat) m)) ksX7_185 (t_X7_mix l h (mxR (mx a (S.1 i).1) (S.1 i).2 (S.1 i).1.toNat) m) rfl (Nat.le_of_ble_eq_true rfl) ⟨(Nat.le_of_ble_eq_true rfl), (Nat.le_of_ble_eq_true rfl)⟩ ⟨(Nat.le_of_ble_eq_true rfl), (Nat.le_of_ble_eq_true rfl)⟩ rfl rfl dX7_mixList_27 rfl ?_
  refine g_lstore (q := 32) (al2 := [some (.ref (0)), some (.long (a)), none, some (.ref (5 + 3 * i)), some (.long (mx (mxR (mx a (S.1 i).1) (S.1 i).2 (S.1 i).1.toNat) m)), none]) (by decide) rfl rfl dX7_mixList_30 rfl ?_
  refine g_lload (q := 34) rfl dX7_mixList_32 rfl ?_
  refine g_aload_n (q := 35) rfl rfl dX7_mixList_34 rfl ?_
  refine g_get (q := 38) fX7_221r (by show _ < 103; omega) hA.1 rfl dX7_mixList_35 rfl ?_
  refine g_aload_n (q := 39) rfl rfl dX7_mixList_38 rfl ?_
  refine g_get (q := 42) fX7_107r (by show _ < 103; omega) hA.1 rfl dX7_mixList_39 rfl ?_
  refine g_bipush (q := 44) (by decide) dX7_mixList_42 rfl ?_
  refine g_imul (q := 45) dX7_mixList_44 rfl ?_
  refine g_Sr (q := 48) (d' := 1) (av := [.long (mx (mxR (mx a (S.1 i).1) (S.1 i).2 (S.1 i).1.toNat) m), .ref (5 + 3 * i + 2), .int (iI (m * 6))]) (st := []) (v := .long (mxR (mx (mxR (mx a (S.1 i).1) (S.1 i).2 (S.1 i).1.toNat) m) (fcs (S.1 i).1 (S.1 i).2) (m * 6))) ksX7_189 (by have := t_X7_mixRow l h (mx (mxR (mx a (S.1 i).1) (S.1 i).2 (S.1 i).1.toNat) m) (5 + 3 * i + 2) 384 fa (m * 6) hA.2.2.1 (by omega) (by omega) (by omega); rw [show ((m * 6 : Nat) : Int) = (m : Int) * 6 by omega, mxR_congr (g := fcs (S.1 i).1 (S.1 i).2) (m * 6) agf] at this; exact this) rfl (Nat.le_of_ble_eq_true rfl) ⟨(Nat.le_of_ble_eq_true rfl), (Nat.le_of_ble_eq_true rfl)⟩ ⟨(Nat.le_of_ble_eq_true rfl), (Nat.le_of_ble_eq_true rfl)⟩ rfl rfl dX7_mixList_45 rfl ?_
  refine g_lstore (q := 50) (al2 := [some (.ref (0)), some (.long (a)), none, some (.ref (5 + 3 * i)), some (.long (mxR (mx (mxR (mx a (S.1 i).1) (S.1 i).2 (S.1 i).1.toNat) m) (fcs (S.1 i).1 (S.1 i).2) (m * 6))), none]) (by decide) rfl rfl dX7_mixList_48 rfl ?_
  refine g_aload_n (q := 51) rfl rfl dX7_mixList_50 rfl ?_
  refine g_get (q := 54) fX7_33r (by decide) g0 rfl dX7_mixList_51 rfl ?_
  refine g_aload_n (q := 55) rfl rfl dX7_mixList_54 rfl ?_
  refine g_Vv (q := 58) (d' := 3) (i := 86) (av := [.ref (5 + 3 * i)]) (st := []) kvX7_116 (t_X1_write l h 86 cl cbs hR0 (5 + 3 * i) (S.1 i).1 m ds fa hA hOd (ag_FOk hag hO hFO) (by omega)) (by decide) hR0.1 rfl (Nat.le_of_ble_eq_true rfl) ⟨(Nat.le_of_ble_eq_true rfl), (Nat.le_of_ble_eq_true rfl)⟩ ⟨(Nat.le_of_ble_eq_true rfl), (Nat.le_of_ble_eq_true rfl)⟩ rfl rfl dX7_mixList_55 rfl (fun h1 hp => ?_)
  obtain ⟨bs1, p1, p2, p3⟩ := hp
  have p4 := ag_BOk hag hO hFO.2.1 p2
  have ez : szP (S.1 i).1 ds m = szP (S.1 i).1 (S.1 i).2 (pn (S.1 i).1 (S.1 i).2) := by rw [ag_szP hag hO hFO.2.1 m (Nat.le_refl _), em]
  rw [ez] at p1
  rw [em] at p4 hsz
  have e0 : h1 0 = _ := (p3 0 (by omega) (by omega)).trans g0
  refine g_lload (q := 60) rfl dX7_mixList_58 rfl ?_
  refine g_aload_n (q := 61) rfl rfl dX7_mixList_60 rfl ?_
  refine g_get (q := 64) fX7_33r (by decide) e0 rfl dX7_mixList_61 rfl ?_
  refine g_get (q := 67) fX7_224r (by decide) p1.1 rfl dX7_mixList_64 rfl ?_
  refine g_aload_n (q := 68) rfl rfl dX7_mixList_67 rfl ?_
  refine g_get (q := 71) fX7_33r (by decide) e0 rfl dX7_mixList_68 rfl ?_
  refine g_get (q := 74) fX7_227r (by decide) p1.1 rfl dX7_mixList_71 rfl ?_
  refine g_Sr (q := 77) (d' := 1) (av := [.long (mxR (mx (mxR (mx a (S.1 i).1) (S.1 i).2 (S.1 i).1.toNat) m) (fcs (S.1 i).1 (S.1 i).2) (m * 6)), .ref (86 + 1), .int (iI (szP (S.1 i).1 (S.1 i).2 (pn (S.1 i).1 (S.1 i).2)))]) (st := []) (v := .long (mxR (mxR (mx (mxR (mx a (S.1 i).1) (S.1 i).2 (S.1 i).1.toNat) m) (fcs (S.1 i).1 (S.1 i).2) (m * 6)) (cbit (S.1 i).1 (S.1 i).2) (szP (S.1 i).1 (S.1 i).2 (pn (S.1 i).1 (S.1 i).2)).toNat)) ksX7_189 (by have := t_X7_mixRow l h1 (mxR (mx (mxR (mx a (S.1 i).1) (S.1 i).2 (S.1 i).1.toNat) m) (fcs (S.1 i).1 (S.1 i).2) (m * 6)) (86 + 1) 538 bs1 (szP (S.1 i).1 (S.1 i).2 (pn (S.1 i).1 (S.1 i).2)).toNat p1.2.1 (by omega) (by omega) (by omega); rw [show ((((szP (S.1 i).1 (S.1 i).2 (pn (S.1 i).1 (S.1 i).2)).toNat : Nat)) : Int) = szP (S.1 i).1 (S.1 i).2 (pn (S.1 i).1 (S.1 i).2) by omega, mxR_congr (g := cbit (S.1 i).1 (S.1 i).2) (szP (S.1 i).1 (S.1 i).2 (pn (S.1 i).1 (S.1 i).2)).toNat (fun t x y => p4.bit x (by omega))] at this; exact this) rfl (Nat.le_of_ble_eq_true rfl) ⟨(Nat.le_of_ble_eq_true rfl), (Nat.le_of_ble_eq_true rfl)⟩ ⟨(Nat.le_of_ble_eq_true rfl), (Nat.le_of_ble_eq_true rfl)⟩ rfl rfl dX7_mixList_74 rfl ?_
  exact g_lreturn (fun z => NN_f z) (Nat.le_of_ble_eq_true rfl) (Nat.le_of_ble_eq_true rfl) dX7_mixList_77 rfl (wP_in ⟨by unfold dgL; rw [← em], crep_code hC p1 p3, fun j hj => p3 j (by omega) (by omega)⟩)
set_option maxRecDepth 4000 in
theorem t_X7_digest (l : Launch) (h : EHp) (S : ASt) (sv : List ASt) (hC : CRep h S sv) : CT l mX7_digest 5 0 0 [.ref (0)] NN h (wP (fun v h' => v = .long (dig S sv) ∧ CRep h' S sv ∧ FrC h h')) := by
  have hC0 := hC
  refine CT.of (by decide) (Nat.le_of_ble_eq_true rfl) ?_
  refine g_al (al2 := [some (.ref (0)), none, none, none]) rfl ?_
  refine g_ldc2 (q := 3) tw_179 dX7_digest_0 rfl ?_
  refine g_lstore_n (q := 4) (al2 := [some (.ref (0)), some (.long (2791)), none, none]) rfl (by decide) rfl rfl dX7_digest_3 rfl ?_
  refine g_iconst (q := 5) dX7_digest_4 rfl ?_
  refine g_istore_n (q := 6) (al2 := [some (.ref (0)), some (.long (2791)), none, some (.int (iI (0)))]) rfl (by decide) rfl rfl dX7_digest_5 rfl ?_
  refine loopG (σ := Nat × EHp) (P := fun zz => match zz with | (i, h1) => G l noX mX7_digest 5 0 0 (wP (fun v h' => v = .long (dig S sv) ∧ CRep h' S sv ∧ FrC h h')) 0 0 6 [some (.ref (0)), some (.long (dgA S i)), none, some (.int (iI (i)))] [] NN h1) (I := fun zz => match zz with | (i, h1) => i ≤ 4 ∧ CRep h1 S sv ∧ FrC h h1) (fun zz => match zz with | (i, h1) => 4 - i) ?_ (0, h) ⟨by omega, hC, fun _ _ => rfl⟩
  rintro ⟨i, h1⟩ hI ih
  obtain ⟨i4, hC1, fr⟩ := hI
  obtain ⟨g0, k1, k2, k4, k5, ⟨nx, hH⟩, -⟩ := id hC1
  obtain ⟨ks, q1, q2, -, q4, q5, q6, q7, q8⟩ := id k4
  obtain ⟨T9, hG, -⟩ := id hH
  refine g_iload_n (q := 7) rfl rfl dX7_digest_6 rfl ?_
  refine g_iconst (q := 8) dX7_digest_7 rfl ?_
  refine g_icmp_ge (t := 32) (q := 11) ⟨by omega, by omega⟩ ⟨by omega, by omega⟩ dX7_digest_8 rfl rfl (fun c8 => ?_) (fun c8 => ?_)
  · have e4 : i = 4 := by omega
    subst e4
    obtain ⟨d4, hd4⟩ : ∃ d4, dgA S 4 = d4 := ⟨_, rfl⟩
    rw [hd4]
    have agk : Ag S.2.2.1.length ks (lG S.2.2.1) := fun t x y => by
      have hl : t.toNat < S.2.2.1.length := by omega
      have := q4 t.toNat (S.2.2.1[t.toNat]) (List.getElem?_eq_getElem hl)
      rw [show ((t.toNat : Nat) : Int) = t by omega] at this
      rw [this]; unfold lG; rw [List.getD_eq_getElem?_getD, List.getElem?_eq_getElem hl]; rfl
    refine g_lload_n (q := 33) rfl rfl dX7_digest_32 rfl ?_
    refine g_aload_n (q := 34) rfl rfl dX7_digest_33 rfl ?_
    refine g_get (q := 37) fX7_12r (by decide) g0 rfl dX7_digest_34 rfl ?_
    refine g_get (q := 40) fX7_153r (by decide) k1 rfl dX7_digest_37 rfl ?_
    refine g_get (q := 43) fX7_157r (by decide) q1 rfl dX7_digest_40 rfl ?_
    refine g_Sr (q := 46) (d' := 0) (av := [.long (d4), .int (iI (S.2.1))]) (st := []) (v := .long (mx (d4) (S.2.1))) ksX7_185 (t_X7_mix l h1 (d4) (S.2.1)) rfl (Nat.le_of_ble_eq_true rfl) ⟨(Nat.le_of_ble_eq_true rfl), (Nat.le_of_ble_eq_true rfl)⟩ ⟨(Nat.le_of_ble_eq_true rfl), (Nat.le_of_ble_eq_true rfl)⟩ rfl rfl dX7_digest_43 rfl ?_
    refine g_lstore_n (q := 47) (al2 := [some (.ref (0)), some (.long (mx (d4) (S.2.1))), none, some (.int (iI (((4 : Nat) : Int))))]) rfl (by decide) rfl rfl dX7_digest_46 rfl ?_
    refine g_lload_n (q := 48) rfl rfl dX7_digest_47 rfl ?_
    refine g_aload_n (q := 49) rfl rfl dX7_digest_48 rfl ?_
    refine g_get (q := 52) fX7_12r (by decide) g0 rfl dX7_digest_49 rfl ?_
    refine g_get (q := 55) fX7_153r (by decide) k1 rfl dX7_digest_52 rfl ?_
    refine g_get (q := 58) fX7_165r (by decide) q1 rfl dX7_digest_55 rfl ?_
    refine g_Sr (q := 61) (d' := 0) (av := [.long (mx (d4) (S.2.1)), .int (iI (S.2.2.1.length))]) (st := []) (v := .long (mx (mx (d4) (S.2.1)) (S.2.2.1.length))) ksX7_185 (t_X7_mix l h1 (mx (d4) (S.2.1)) (S.2.2.1.length)) rfl (Nat.le_of_ble_eq_true rfl) ⟨(Nat.le_of_ble_eq_true rfl), (Nat.le_of_ble_eq_true rfl)⟩ ⟨(Nat.le_of_ble_eq_true rfl), (Nat.le_of_ble_eq_true rfl)⟩ rfl rfl dX7_digest_58 rfl ?_
    refine g_lstore_n (q := 62) (al2 := [some (.ref (0)), some (.long (mx (mx (d4) (S.2.1)) (S.2.2.1.length))), none, some (.int (iI (((4 : Nat) : Int))))]) rfl (by decide) rfl rfl dX7_digest_61 rfl ?_
    refine g_lload_n (q := 63) rfl rfl dX7_digest_62 rfl ?_
    refine g_aload_n (q := 64) rfl rfl dX7_digest_63 rfl ?_
    refine g_get (q := 67) fX7_12r (by decide) g0 rfl dX7_digest_64 rfl ?_
    refine g_get (q := 70) fX7_153r (by decide) k1 rfl dX7_digest_67 rfl ?_
    refine g_get (q := 73) fX7_166r (by decide) q1 rfl dX7_digest_70 rfl ?_
    refine g_aload_n (q := 74) rfl rfl dX7_digest_73 rfl ?_
    refine g_get (q := 77) fX7_12r (by decide) g0 rfl dX7_digest_74 rfl ?_
    refine g_get (q := 80) fX7_153r (by decide) k1 rfl dX7_digest_77 rfl ?_
    refine g_get (q := 83) fX7_165r (by decide) q1 rfl dX7_digest_80 rfl ?_
    refine g_Sr (q := 86) (d' := 1) (av := [.long (mx (mx (d4) (S.2.1)) (S.2.2.1.length)), .ref (3 + 1), .int (iI (S.2.2.1.length))]) (st := []) (v := .long (mxR (mx (mx (d4) (S.2.1)) (S.2.2.1.length)) (lG S.2.2.1) S.2.2.1.length)) ksX7_189 (by have := t_X7_mixRow l h1 (mx (mx (d4) (S.2.1)) (S.2.2.1.length)) (3 + 1) 8 ks S.2.2.1.length q2 (by omega) (by omega) (by omega); rw [mxR_congr (g := lG S.2.2.1) S.2.2.1.length agk] at this; exact this) rfl (Nat.le_of_ble_eq_true rfl) ⟨(Nat.le_of_ble_eq_true rfl), (Nat.le_of_ble_eq_true rfl)⟩ ⟨(Nat.le_of_ble_eq_true rfl), (Nat.le_of_ble_eq_true rfl)⟩ rfl rfl dX7_digest_83 rfl ?_
    refine g_lstore_n (q := 87) (al2 := [some (.ref (0)), some (.long (mxR (mx (mx (d4) (S.2.1)) (S.2.2.1.length)) (lG S.2.2.1) S.2.2.1.length)), none, some (.int (iI (((4 : Nat) : Int))))]) rfl (by decide) rfl rfl dX7_digest_86 rfl ?_
    refine g_lload_n (q := 88) rfl rfl dX7_digest_87 rfl ?_
    refine g_aload_n (q := 89) rfl rfl dX7_digest_88 rfl ?_
    refine g_get (q := 92) fX7_12r (by decide) g0 rfl dX7_digest_89 rfl ?_
    refine g_get (q := 95) fX7_147r (by decide) k1 rfl dX7_digest_92 rfl ?_
    refine g_Sr (q := 98) (d' := 0) (av := [.long (mxR (mx (mx (d4) (S.2.1)) (S.2.2.1.length)) (lG S.2.2.1) S.2.2.1.length), .int (iI (S.2.2.2.1))]) (st := []) (v := .long (mx (mxR (mx (mx (d4) (S.2.1)) (S.2.2.1.length)) (lG S.2.2.1) S.2.2.1.length) (S.2.2.2.1))) ksX7_185 (t_X7_mix l h1 (mxR (mx (mx (d4) (S.2.1)) (S.2.2.1.length)) (lG S.2.2.1) S.2.2.1.length) (S.2.2.2.1)) rfl (Nat.le_of_ble_eq_true rfl) ⟨(Nat.le_of_ble_eq_true rfl), (Nat.le_of_ble_eq_true rfl)⟩ ⟨(Nat.le_of_ble_eq_true rfl), (Nat.le_of_ble_eq_true rfl)⟩ rfl rfl dX7_digest_95 rfl ?_
    refine g_lstore_n (q := 99) (al2 := [some (.ref (0)), some (.long (mx (mxR (mx (mx (d4) (S.2.1)) (S.2.2.1.length)) (lG S.2.2.1) S.2.2.1.length) (S.2.2.2.1))), none, some (.int (iI (((4 : Nat) : Int))))]) rfl (by decide) rfl rfl dX7_digest_98 rfl ?_
    refine g_lload_n (q := 100) rfl rfl dX7_digest_99 rfl ?_
    refine g_aload_n (q := 101) rfl rfl dX7_digest_100 rfl ?_
    refine g_get (q := 104) fX7_12r (by decide) g0 rfl dX7_digest_101 rfl ?_
    refine g_get (q := 107) fX7_150r (by decide) k1 rfl dX7_digest_104 rfl ?_
    refine g_Sr (q := 110) (d' := 0) (av := [.long (mx (mxR (mx (mx (d4) (S.2.1)) (S.2.2.1.length)) (lG S.2.2.1) S.2.2.1.length) (S.2.2.2.1)), .int (iI (S.2.2.2.2))]) (st := []) (v := .long (mx (mx (mxR (mx (mx (d4) (S.2.1)) (S.2.2.1.length)) (lG S.2.2.1) S.2.2.1.length) (S.2.2.2.1)) (S.2.2.2.2))) ksX7_185 (t_X7_mix l h1 (mx (mxR (mx (mx (d4) (S.2.1)) (S.2.2.1.length)) (lG S.2.2.1) S.2.2.1.length) (S.2.2.2.1)) (S.2.2.2.2)) rfl (Nat.le_of_ble_eq_true rfl) ⟨(Nat.le_of_ble_eq_true rfl), (Nat.le_of_ble_eq_true rfl)⟩ ⟨(Nat.le_of_ble_eq_true rfl), (Nat.le_of_ble_eq_true rfl)⟩ rfl rfl dX7_digest_107 rfl ?_
    refine g_lstore_n (q := 111) (al2 := [some (.ref (0)), some (.long (mx (mx (mxR (mx (mx (d4) (S.2.1)) (S.2.2.1.length)) (lG S.2.2.1) S.2.2.1.length) (S.2.2.2.1)) (S.2.2.2.2))), none, some (.int (iI (((4 : Nat) : Int))))]) rfl (by decide) rfl rfl dX7_digest_110 rfl ?_
    refine g_lload_n (q := 112) rfl rfl dX7_digest_111 rfl ?_
    refine g_aload_n (q := 113) rfl rfl dX7_digest_112 rfl ?_
    refine g_get (q := 116) fX7_19r (by decide) g0 rfl dX7_digest_113 rfl ?_
    refine g_get (q := 119) fX7_169r (by decide) hG rfl dX7_digest_116 rfl ?_
    refine g_Sr (q := 122) (d' := 0) (av := [.long (mx (mx (mxR (mx (mx (d4) (S.2.1)) (S.2.2.1.length)) (lG S.2.2.1) S.2.2.1.length) (S.2.2.2.1)) (S.2.2.2.2)), .int (iI (sv.length))]) (st := []) (v := .long (mx (mx (mx (mxR (mx (mx (d4) (S.2.1)) (S.2.2.1.length)) (lG S.2.2.1) S.2.2.1.length) (S.2.2.2.1)) (S.2.2.2.2)) (sv.length))) ksX7_185 (t_X7_mix l h1 (mx (mx (mxR (mx (mx (d4) (S.2.1)) (S.2.2.1.length)) (lG S.2.2.1) S.2.2.1.length) (S.2.2.2.1)) (S.2.2.2.2)) (sv.length)) rfl (Nat.le_of_ble_eq_true rfl) ⟨(Nat.le_of_ble_eq_true rfl), (Nat.le_of_ble_eq_true rfl)⟩ ⟨(Nat.le_of_ble_eq_true rfl), (Nat.le_of_ble_eq_true rfl)⟩ rfl rfl dX7_digest_119 rfl ?_
    exact g_lreturn (fun z => NN_f z) (Nat.le_of_ble_eq_true rfl) (Nat.le_of_ble_eq_true rfl) dX7_digest_122 rfl (wP_in ⟨by unfold dig; rw [hd4], hC1, fr⟩)
  · have er : lref 1 (i : Int) = some (5 + 3 * i) := by unfold lref; rw [if_pos (by omega), Int.toNat_natCast]
    refine g_aload_n (q := 12) rfl rfl dX7_digest_11 rfl ?_
    refine g_lload_n (q := 13) rfl rfl dX7_digest_12 rfl ?_
    refine g_aload_n (q := 14) rfl rfl dX7_digest_13 rfl ?_
    refine g_get (q := 17) fX7_12r (by decide) g0 rfl dX7_digest_14 rfl ?_
    refine g_get (q := 20) fX7_177r (by decide) k1 rfl dX7_digest_17 rfl ?_
    refine g_iload_n (q := 21) rfl rfl dX7_digest_20 rfl ?_
    refine g_aaload (q := 22) (by decide) k2 (Or.inl rfl) (by omega) (by omega) (by decide) er dX7_digest_21 rfl ?_
    refine g_Vw (q := 25) (d' := 4) (i := 0) (av := [.long (dgA S i), .ref (5 + 3 * i)]) (st := []) kvX7_181 (t_X7_mixList l h1 S sv hC1 i (by omega) (dgA S i)) (by decide) g0 rfl (Nat.le_of_ble_eq_true rfl) ⟨(Nat.le_of_ble_eq_true rfl), (Nat.le_of_ble_eq_true rfl)⟩ ⟨(Nat.le_of_ble_eq_true rfl), (Nat.le_of_ble_eq_true rfl)⟩ rfl rfl dX7_digest_22 rfl (fun v h2 hp => ?_)
    obtain ⟨rfl, p1, p2⟩ := hp
    refine g_lstore_n (q := 26) (al2 := [some (.ref (0)), some (.long (dgA S (i + 1))), none, some (.int (iI (i)))]) rfl (by decide) rfl rfl dX7_digest_25 rfl ?_
    refine g_iinc (q := 29) (al2 := [some (.ref (0)), some (.long (dgA S (i + 1))), none, some (.int (iI (i + 1)))]) rfl (by decide) rfl rfl dX7_digest_26 rfl ?_
    refine g_goto (q := 6) dX7_digest_29 rfl ?_
    exact ih (i + 1, h2) ⟨show i + 1 ≤ 4 by omega, p1, fun j hj => (p2 j hj).trans (fr j hj)⟩ (show 4 - (i + 1) < 4 - i by omega)
