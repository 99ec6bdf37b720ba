/-! ===== the reference: digest ===== -/
set_option maxRecDepth 4000 in
theorem t_X8_mixed (l : Launch) (h : EHp) (a : Int64) (v : Int) : CT l mX8_mixed 0 0 0 [.long (a), .long ((iI v).toInt64)] NN h (rP (.long (mx a v)) h) := by
  refine CT.of (by decide) (Nat.le_of_ble_eq_true rfl) ?_
  refine g_al (al2 := [some (.long (a)), none, some (.long ((iI v).toInt64)), none]) rfl ?_
  refine g_ldc2 (q := 3) tw_924 dX8_mixed_0 rfl ?_
  refine g_lload_n (q := 4) rfl rfl dX8_mixed_3 rfl ?_
  refine g_lmul (q := 5) dX8_mixed_4 rfl ?_
  refine g_lload_n (q := 6) rfl rfl dX8_mixed_5 rfl ?_
  refine g_ladd (q := 7) dX8_mixed_6 rfl ?_
  exact g_lreturn (fun z => NN_f z) (Nat.le_of_ble_eq_true rfl) (Nat.le_of_ble_eq_true rfl) dX8_mixed_7 rfl rP_in
set_option maxRecDepth 4000 in
theorem t_X8_digest (l : Launch) (h : EHp) (th : Int) (S : ASt) (sv : List ASt) (hM : MRep h th S sv) : CT l mX8_digest 7 0 0 [.ref (90)] NN h (wP (fun v h' => v = .long (dig S sv) ∧ MRep h' 0 S sv ∧ FrM h h')) := by
  obtain ⟨w, pst, bg, mn, lz, hA, ⟨m1, m2, m3, m4, m5⟩, ⟨⟨cs, s1⟩, ⟨ct, s2⟩, ⟨nx, s3⟩, ⟨fd, s4⟩, ⟨od, s5⟩⟩, hW, hP, hY⟩ := id hM
  refine CT.of (by decide) (Nat.le_of_ble_eq_true rfl) ?_
  refine g_al (al2 := [some (.ref (90)), none, none, none, none, none]) rfl ?_
  refine g_aload_n (q := 1) rfl rfl dX8_digest_0 rfl ?_
  refine g_iconst (q := 2) dX8_digest_1 rfl ?_
  refine g_put (q := 5) fX8_41 (by decide) hA (Nat.le_of_ble_eq_true rfl) (fun _ _ => rfl) (fun _ _ => rfl) dX8_digest_2 rfl ?_
  refine hp_in (fun hh1 ehh1 => ?_)
  have fc2 : hh1 90 = cO 7 [.int (iI (0)), .ref (91), .ref (92), .int (iI (sv.length)), .ref (93), .ref (94), .ref (95), .ref (96), .ref (97), .ref (98), .ref (99), .ref (100)] := by rw [ehh1]; exact ueh_s
  have fc3 : hh1 91 = cI 272 w := by rw [ehh1, ueh_n (by decide)]; exact m1
  refine g_ldc2 (q := 8) tw_920 dX8_digest_5 rfl ?_
  refine g_lstore_n (q := 9) (al2 := [some (.ref (90)), some (.long (2791)), none, none, none, none]) rfl (by decide) rfl rfl dX8_digest_8 rfl ?_
  refine g_iconst (q := 10) dX8_digest_9 rfl ?_
  refine g_istore_n (q := 11) (al2 := [some (.ref (90)), some (.long (2791)), none, some (.int (iI (0))), none, none]) rfl (by decide) rfl rfl dX8_digest_10 rfl ?_
  have hM0 : MRep hh1 0 S sv := hM.thr fc2 (fun j hj => by rw [ehh1, ueh_n hj])
  have fr0 : ∀ j, j ≠ 90 → hh1 j = h j := fun j hj => by rw [ehh1, ueh_n hj]
  refine loopG (σ := Nat × EHp) (P := fun zz => match zz with | (i, h1) => G l noX mX8_digest 7 0 0 (wP (fun v h' => v = .long (dig S sv) ∧ MRep h' 0 S sv ∧ FrM h h')) 0 0 11 [some (.ref (90)), some (.long (dgA S i)), none, some (.int (iI (i))), none, none] [] NN h1) (I := fun zz => match zz with | (i, h1) => i ≤ 4 ∧ MRep h1 0 S sv ∧ FrM h h1) (fun zz => match zz with | (i, h1) => 4 - i) ?_ (0, hh1) ⟨by omega, hM0, fun j hj => fr0 j (by omega)⟩
  rintro ⟨i, h1⟩ hI iho
  obtain ⟨i4, hM1, fr1⟩ := hI
  obtain ⟨w1, pst1, bg1, mn1, lz1, A1, ⟨B1, -⟩, -, W1, -⟩ := id hM1
  refine g_iload_n (q := 12) rfl rfl dX8_digest_11 rfl ?_
  refine g_iconst (q := 13) dX8_digest_12 rfl ?_
  refine g_icmp_ge (t := 164) (q := 16) ⟨by omega, by omega⟩ ⟨by omega, by omega⟩ dX8_digest_13 rfl rfl (fun c13 => ?_) (fun c13 => ?_)
  · have e4 : i = 4 := by omega
    subst e4
    obtain ⟨d4, hd4⟩ : ∃ d4, dgA S 4 = d4 := ⟨_, rfl⟩
    rw [hd4]
    obtain ⟨wl, w8⟩ := W1.len
    obtain ⟨-, w260, -, wcl, w270, w271, -⟩ := id W1
    refine g_lload_n (q := 165) rfl rfl dX8_digest_164 rfl ?_
    refine g_aload_n (q := 166) rfl rfl dX8_digest_165 rfl ?_
    refine g_get (q := 169) fX8_7r (by decide) A1 rfl dX8_digest_166 rfl ?_
    refine g_sipush (q := 172) (by decide) dX8_digest_169 rfl ?_
    refine g_iaload (q := 173) (by decide) B1 (by decide) (by decide) (by decide) dX8_digest_172 rfl ?_
    rw [w260]
    refine g_i2l (q := 174) dX8_digest_173 rfl ?_
    refine g_Sr (q := 177) (d' := 0) (av := [.long (d4), .long ((iI S.2.1).toInt64)]) (st := []) (v := .long (mx (d4) (S.2.1))) ksX8_161 (t_X8_mixed l h1 (d4) (S.2.1)) rfl (Nat.le_of_ble_eq_true rfl) ⟨(Nat.le_of_ble_eq_true rfl), (Nat.le_of_ble_eq_true rfl)⟩ ⟨(Nat.le_of_ble_eq_true rfl), (Nat.le_of_ble_eq_true rfl)⟩ rfl rfl dX8_digest_174 rfl ?_
    refine g_aload_n (q := 178) rfl rfl dX8_digest_177 rfl ?_
    refine g_get (q := 181) fX8_7r (by decide) A1 rfl dX8_digest_178 rfl ?_
    refine g_sipush (q := 184) (by decide) dX8_digest_181 rfl ?_
    refine g_iaload (q := 185) (by decide) B1 (by decide) (by decide) (by decide) dX8_digest_184 rfl ?_
    rw [wl]
    refine g_i2l (q := 186) dX8_digest_185 rfl ?_
    refine g_Sr (q := 189) (d' := 0) (av := [.long (mx (d4) (S.2.1)), .long ((iI S.2.2.1.length).toInt64)]) (st := []) (v := .long (mx (mx d4 S.2.1) ((S.2.2.1.length : Int)))) ksX8_161 (t_X8_mixed l h1 (mx d4 S.2.1) ((S.2.2.1.length : Int))) rfl (Nat.le_of_ble_eq_true rfl) ⟨(Nat.le_of_ble_eq_true rfl), (Nat.le_of_ble_eq_true rfl)⟩ ⟨(Nat.le_of_ble_eq_true rfl), (Nat.le_of_ble_eq_true rfl)⟩ rfl rfl dX8_digest_186 rfl ?_
    refine g_lstore_n (q := 190) (al2 := [some (.ref (90)), some (.long (mx (mx d4 S.2.1) ((S.2.2.1.length : Int)))), none, some (.int (iI (((4 : Nat) : Int)))), none, none]) rfl (by decide) rfl rfl dX8_digest_189 rfl ?_
    refine g_iconst (q := 191) dX8_digest_190 rfl ?_
    refine g_istore_n (q := 192) (al2 := [some (.ref (90)), some (.long (mx (mx d4 S.2.1) ((S.2.2.1.length : Int)))), none, some (.int (iI (0))), none, none]) rfl (by decide) rfl rfl dX8_digest_191 rfl ?_
    refine loopG (σ := Nat) (P := fun k => G l noX mX8_digest 7 0 0 (wP (fun v h' => v = .long (dig S sv) ∧ MRep h' 0 S sv ∧ FrM h h')) 0 0 192 [some (.ref (90)), some (.long (mxR (mx (mx d4 S.2.1) (S.2.2.1.length : Int)) (lG S.2.2.1) k)), none, some (.int (iI (k))), none, none] [] NN h1) (I := fun k => k ≤ S.2.2.1.length) (fun k => S.2.2.1.length - k) ?_ 0 (Nat.zero_le _)
    intro k hI ih
    refine g_iload_n (q := 193) rfl rfl dX8_digest_192 rfl ?_
    refine g_aload_n (q := 194) rfl rfl dX8_digest_193 rfl ?_
    refine g_get (q := 197) fX8_7r (by decide) A1 rfl dX8_digest_194 rfl ?_
    refine g_sipush (q := 200) (by decide) dX8_digest_197 rfl ?_
    refine g_iaload (q := 201) (by decide) B1 (by decide) (by decide) (by decide) dX8_digest_200 rfl ?_
    rw [wl]
    refine g_icmp_ge (t := 226) (q := 204) ⟨by omega, by omega⟩ ⟨by omega, by omega⟩ dX8_digest_201 rfl rfl (fun c201 => ?_) (fun c201 => ?_)
    · have ek : k = S.2.2.1.length := by omega
      subst ek
      refine g_lload_n (q := 227) rfl rfl dX8_digest_226 rfl ?_
      refine g_aload_n (q := 228) rfl rfl dX8_digest_227 rfl ?_
      refine g_get (q := 231) fX8_7r (by decide) A1 rfl dX8_digest_228 rfl ?_
      refine g_sipush (q := 234) (by decide) dX8_digest_231 rfl ?_
      refine g_iaload (q := 235) (by decide) B1 (by decide) (by decide) (by decide) dX8_digest_234 rfl ?_
      rw [w270]
      refine g_i2l (q := 236) dX8_digest_235 rfl ?_
      refine g_Sr (q := 239) (d' := 0) (av := [.long (mxR (mx (mx d4 S.2.1) (S.2.2.1.length : Int)) (lG S.2.2.1) S.2.2.1.length), .long ((iI S.2.2.2.1).toInt64)]) (st := []) (v := .long (mx (mxR (mx (mx d4 S.2.1) (S.2.2.1.length : Int)) (lG S.2.2.1) S.2.2.1.length) (S.2.2.2.1))) ksX8_161 (t_X8_mixed l h1 (mxR (mx (mx d4 S.2.1) (S.2.2.1.length : Int)) (lG S.2.2.1) S.2.2.1.length) (S.2.2.2.1)) rfl (Nat.le_of_ble_eq_true rfl) ⟨(Nat.le_of_ble_eq_true rfl), (Nat.le_of_ble_eq_true rfl)⟩ ⟨(Nat.le_of_ble_eq_true rfl), (Nat.le_of_ble_eq_true rfl)⟩ rfl rfl dX8_digest_236 rfl ?_
      refine g_aload_n (q := 240) rfl rfl dX8_digest_239 rfl ?_
      refine g_get (q := 243) fX8_7r (by decide) A1 rfl dX8_digest_240 rfl ?_
      refine g_sipush (q := 246) (by decide) dX8_digest_243 rfl ?_
      refine g_iaload (q := 247) (by decide) B1 (by decide) (by decide) (by decide) dX8_digest_246 rfl ?_
      rw [w271]
      refine g_i2l (q := 248) dX8_digest_247 rfl ?_
      refine g_Sr (q := 251) (d' := 0) (av := [.long (mx (mxR (mx (mx d4 S.2.1) (S.2.2.1.length : Int)) (lG S.2.2.1) S.2.2.1.length) (S.2.2.2.1)), .long ((iI S.2.2.2.2).toInt64)]) (st := []) (v := .long (mx (mx (mxR (mx (mx d4 S.2.1) (S.2.2.1.length : Int)) (lG S.2.2.1) S.2.2.1.length) (S.2.2.2.1)) (S.2.2.2.2))) ksX8_161 (t_X8_mixed l h1 (mx (mxR (mx (mx d4 S.2.1) (S.2.2.1.length : Int)) (lG S.2.2.1) S.2.2.1.length) (S.2.2.2.1)) (S.2.2.2.2)) rfl (Nat.le_of_ble_eq_true rfl) ⟨(Nat.le_of_ble_eq_true rfl), (Nat.le_of_ble_eq_true rfl)⟩ ⟨(Nat.le_of_ble_eq_true rfl), (Nat.le_of_ble_eq_true rfl)⟩ rfl rfl dX8_digest_248 rfl ?_
      refine g_aload_n (q := 252) rfl rfl dX8_digest_251 rfl ?_
      refine g_get (q := 255) fX8_49r (by decide) A1 rfl dX8_digest_252 rfl ?_
      refine g_i2l (q := 256) dX8_digest_255 rfl ?_
      refine g_Sr (q := 259) (d' := 0) (av := [.long (mx (mx (mxR (mx (mx d4 S.2.1) (S.2.2.1.length : Int)) (lG S.2.2.1) S.2.2.1.length) (S.2.2.2.1)) (S.2.2.2.2)), .long ((iI sv.length).toInt64)]) (st := []) (v := .long (mx (mx (mx (mxR (mx (mx d4 S.2.1) (S.2.2.1.length : Int)) (lG S.2.2.1) S.2.2.1.length) (S.2.2.2.1)) (S.2.2.2.2)) ((sv.length : Int)))) ksX8_161 (t_X8_mixed l h1 (mx (mx (mxR (mx (mx d4 S.2.1) (S.2.2.1.length : Int)) (lG S.2.2.1) S.2.2.1.length) (S.2.2.2.1)) (S.2.2.2.2)) ((sv.length : Int))) rfl (Nat.le_of_ble_eq_true rfl) ⟨(Nat.le_of_ble_eq_true rfl), (Nat.le_of_ble_eq_true rfl)⟩ ⟨(Nat.le_of_ble_eq_true rfl), (Nat.le_of_ble_eq_true rfl)⟩ rfl rfl dX8_digest_256 rfl ?_
      exact g_lreturn (fun z => NN_f z) (Nat.le_of_ble_eq_true rfl) (Nat.le_of_ble_eq_true rfl) dX8_digest_259 rfl (wP_in ⟨by unfold dig; rw [hd4], hM1, fr1⟩)
    · obtain ⟨v, hv⟩ : ∃ v, S.2.2.1[k]? = some v := ⟨_, List.getElem?_eq_getElem (show k < S.2.2.1.length by omega)⟩
      have ev : w1 (262 + (k : Int)) = lG S.2.2.1 k := by rw [wcl k v hv]; unfold lG; rw [Int.toNat_natCast, List.getD_eq_getElem?_getD, hv]; rfl
      refine g_lload_n (q := 205) rfl rfl dX8_digest_204 rfl ?_
      refine g_aload_n (q := 206) rfl rfl dX8_digest_205 rfl ?_
      refine g_get (q := 209) fX8_7r (by decide) A1 rfl dX8_digest_206 rfl ?_
      refine g_sipush (q := 212) (by decide) dX8_digest_209 rfl ?_
      refine g_iload_n (q := 213) rfl rfl dX8_digest_212 rfl ?_
      refine g_iadd (q := 214) dX8_digest_213 rfl ?_
      refine g_iaload (q := 215) (by decide) B1 (by omega) (by omega) (by decide) dX8_digest_214 rfl ?_
      rw [ev]
      refine g_i2l (q := 216) dX8_digest_215 rfl ?_
      refine g_Sr (q := 219) (d' := 0) (av := [.long (mxR (mx (mx d4 S.2.1) (S.2.2.1.length : Int)) (lG S.2.2.1) k), .long ((iI (lG S.2.2.1 k)).toInt64)]) (st := []) (v := .long (mx (mxR (mx (mx d4 S.2.1) (S.2.2.1.length : Int)) (lG S.2.2.1) k) (lG S.2.2.1 k))) ksX8_161 (t_X8_mixed l h1 (mxR (mx (mx d4 S.2.1) (S.2.2.1.length : Int)) (lG S.2.2.1) k) (lG S.2.2.1 k)) rfl (Nat.le_of_ble_eq_true rfl) ⟨(Nat.le_of_ble_eq_true rfl), (Nat.le_of_ble_eq_true rfl)⟩ ⟨(Nat.le_of_ble_eq_true rfl), (Nat.le_of_ble_eq_true rfl)⟩ rfl rfl dX8_digest_216 rfl ?_
      refine g_lstore_n (q := 220) (al2 := [some (.ref (90)), some (.long (mx (mxR (mx (mx d4 S.2.1) (S.2.2.1.length : Int)) (lG S.2.2.1) k) (lG S.2.2.1 k))), none, some (.int (iI (k))), none, none]) rfl (by decide) rfl rfl dX8_digest_219 rfl ?_
      refine g_iinc (q := 223) (al2 := [some (.ref (90)), some (.long (mx (mxR (mx (mx d4 S.2.1) (S.2.2.1.length : Int)) (lG S.2.2.1) k) (lG S.2.2.1 k))), none, some (.int (iI (k + 1))), none, none]) rfl (by decide) rfl rfl dX8_digest_220 rfl ?_
      refine g_goto (q := 192) dX8_digest_223 rfl ?_
      exact ih (k + 1) (by omega) (by omega)
  · have hi : i < 4 := by omega
    obtain ⟨d, hd⟩ : ∃ d, dgA S i = d := ⟨_, rfl⟩
    rw [hd]
    obtain ⟨x1, x2, x3⟩ := W1.1 i hi
    obtain ⟨o1, o2, o3, o4⟩ := id x2
    refine g_lload_n (q := 17) rfl rfl dX8_digest_16 rfl ?_
    refine g_aload_n (q := 18) rfl rfl dX8_digest_17 rfl ?_
    refine g_get (q := 21) fX8_7r (by decide) A1 rfl dX8_digest_18 rfl ?_
    refine g_iload_n (q := 22) rfl rfl dX8_digest_21 rfl ?_
    refine g_iaload (q := 23) (by decide) B1 (by omega) (by omega) (by decide) dX8_digest_22 rfl ?_
    rw [x1]
    refine g_i2l (q := 24) dX8_digest_23 rfl ?_
    refine g_Sr (q := 27) (d' := 0) (av := [.long (d), .long ((iI ((S.1 i).1)).toInt64)]) (st := []) (v := .long (mx (d) ((S.1 i).1))) ksX8_161 (t_X8_mixed l h1 (d) ((S.1 i).1)) rfl (Nat.le_of_ble_eq_true rfl) ⟨(Nat.le_of_ble_eq_true rfl), (Nat.le_of_ble_eq_true rfl)⟩ ⟨(Nat.le_of_ble_eq_true rfl), (Nat.le_of_ble_eq_true rfl)⟩ rfl rfl dX8_digest_24 rfl ?_
    refine g_lstore_n (q := 28) (al2 := [some (.ref (90)), some (.long (mx (d) ((S.1 i).1))), none, some (.int (iI (i))), none, none]) rfl (by decide) rfl rfl dX8_digest_27 rfl ?_
    refine g_iconst (q := 29) dX8_digest_28 rfl ?_
    refine g_istore (q := 31) (al2 := [some (.ref (90)), some (.long (mx (d) ((S.1 i).1))), none, some (.int (iI (i))), some (.int (iI (0))), none]) (by decide) rfl rfl dX8_digest_29 rfl ?_
    refine loopG (σ := Nat) (P := fun k => G l noX mX8_digest 7 0 0 (wP (fun v h' => v = .long (dig S sv) ∧ MRep h' 0 S sv ∧ FrM h h')) 0 0 31 [some (.ref (90)), some (.long (mxR (mx d ((S.1 i).1)) (S.1 i).2 k)), none, some (.int (iI (i))), some (.int (iI (k))), none] [] NN h1) (I := fun k => (k : Int) ≤ (S.1 i).1) (fun k => ((S.1 i).1 - k).toNat) ?_ 0 (by omega)
    intro k hI ih
    refine g_iload (q := 33) rfl dX8_digest_31 rfl ?_
    refine g_aload_n (q := 34) rfl rfl dX8_digest_33 rfl ?_
    refine g_get (q := 37) fX8_7r (by decide) A1 rfl dX8_digest_34 rfl ?_
    refine g_iload_n (q := 38) rfl rfl dX8_digest_37 rfl ?_
    refine g_iaload (q := 39) (by decide) B1 (by omega) (by omega) (by decide) dX8_digest_38 rfl ?_
    rw [x1]
    refine g_icmp_ge (t := 61) (q := 42) ⟨by omega, by omega⟩ ⟨by omega, by omega⟩ dX8_digest_39 rfl rfl (fun c39 => ?_) (fun c39 => ?_)
    · have ek : k = (S.1 i).1.toNat := by omega
      obtain ⟨d1, hd1⟩ : ∃ d1, mxR (mx d ((S.1 i).1)) (S.1 i).2 (S.1 i).1.toNat = d1 := ⟨_, rfl⟩
      rw [ek, hd1]
      refine g_aload_n (q := 62) rfl rfl dX8_digest_61 rfl ?_
      refine g_iload_n (q := 63) rfl rfl dX8_digest_62 rfl ?_
      refine g_Vv (q := 66) (d' := 4) (i := 90) (av := [.int (iI (i))]) (st := []) kvX8_114 (t_X8_lay l h1 0 S sv hM1 i hi) (by decide) A1 rfl (Nat.le_of_ble_eq_true rfl) ⟨(Nat.le_of_ble_eq_true rfl), (Nat.le_of_ble_eq_true rfl)⟩ ⟨(Nat.le_of_ble_eq_true rfl), (Nat.le_of_ble_eq_true rfl)⟩ rfl rfl dX8_digest_63 rfl (fun h2 hp => ?_)
      obtain ⟨l1, l2, l3⟩ := hp
      obtain ⟨bg9, mn9, b93, b94, emn, -⟩ := id l2.2
      have p64 := pn_64 l2.LOk
      obtain ⟨w2, pst2, bg2, mn2, lz2, A2, ⟨B2, -⟩, -, W2, -⟩ := id l1
      refine g_lload_n (q := 67) rfl rfl dX8_digest_66 rfl ?_
      refine g_aload_n (q := 68) rfl rfl dX8_digest_67 rfl ?_
      refine g_get (q := 71) fX8_19r (by decide) A2 rfl dX8_digest_68 rfl ?_
      refine g_iload_n (q := 72) rfl rfl dX8_digest_71 rfl ?_
      refine g_iaload (q := 73) (by decide) b94 (by omega) (by omega) (by decide) dX8_digest_72 rfl ?_
      rw [emn]
      refine g_i2l (q := 74) dX8_digest_73 rfl ?_
      refine g_Sr (q := 77) (d' := 0) (av := [.long (d1), .long ((iI ((pn (S.1 i).1 (S.1 i).2 : Int))).toInt64)]) (st := []) (v := .long (mx (d1) ((pn (S.1 i).1 (S.1 i).2 : Int)))) ksX8_161 (t_X8_mixed l h2 (d1) ((pn (S.1 i).1 (S.1 i).2 : Int))) rfl (Nat.le_of_ble_eq_true rfl) ⟨(Nat.le_of_ble_eq_true rfl), (Nat.le_of_ble_eq_true rfl)⟩ ⟨(Nat.le_of_ble_eq_true rfl), (Nat.le_of_ble_eq_true rfl)⟩ rfl rfl dX8_digest_74 rfl ?_
      refine g_lstore_n (q := 78) (al2 := [some (.ref (90)), some (.long (mx (d1) ((pn (S.1 i).1 (S.1 i).2 : Int)))), none, some (.int (iI (i))), some (.int (iI (((S.1 i).1.toNat : Nat)))), none]) rfl (by decide) rfl rfl dX8_digest_77 rfl ?_
      refine g_iconst (q := 79) dX8_digest_78 rfl ?_
      refine g_istore (q := 81) (al2 := [some (.ref (90)), some (.long (mx (d1) ((pn (S.1 i).1 (S.1 i).2 : Int)))), none, some (.int (iI (i))), some (.int (iI (0))), none]) (by decide) rfl rfl dX8_digest_79 rfl ?_
      refine loopG (σ := Nat) (P := fun k => G l noX mX8_digest 7 0 0 (wP (fun v h' => v = .long (dig S sv) ∧ MRep h' 0 S sv ∧ FrM h h')) 0 0 81 [some (.ref (90)), some (.long (mxR (mx d1 (pn (S.1 i).1 (S.1 i).2 : Int)) (fcs (S.1 i).1 (S.1 i).2) k)), none, some (.int (iI (i))), some (.int (iI (k))), none] [] NN h2) (I := fun k => k ≤ pn (S.1 i).1 (S.1 i).2 * 6) (fun k => pn (S.1 i).1 (S.1 i).2 * 6 - k) ?_ 0 (Nat.zero_le _)
      intro k hI ih
      refine g_iload (q := 83) rfl dX8_digest_81 rfl ?_
      refine g_bipush (q := 85) (by decide) dX8_digest_83 rfl ?_
      refine g_aload_n (q := 86) rfl rfl dX8_digest_85 rfl ?_
      refine g_get (q := 89) fX8_19r (by decide) A2 rfl dX8_digest_86 rfl ?_
      refine g_iload_n (q := 90) rfl rfl dX8_digest_89 rfl ?_
      refine g_iaload (q := 91) (by decide) b94 (by omega) (by omega) (by decide) dX8_digest_90 rfl ?_
      rw [emn]
      refine g_imul (q := 92) dX8_digest_91 rfl ?_
      refine g_icmp_ge (t := 122) (q := 95) ⟨by omega, by omega⟩ ⟨by omega, by omega⟩ dX8_digest_92 rfl rfl (fun c92 => ?_) (fun c92 => ?_)
      · have ek : k = pn (S.1 i).1 (S.1 i).2 * 6 := by omega
        obtain ⟨d2, hd2⟩ : ∃ d2, mxR (mx d1 (pn (S.1 i).1 (S.1 i).2 : Int)) (fcs (S.1 i).1 (S.1 i).2) (pn (S.1 i).1 (S.1 i).2 * 6) = d2 := ⟨_, rfl⟩
        rw [ek, hd2]
        refine g_aload_n (q := 123) rfl rfl dX8_digest_122 rfl ?_
        refine g_iload_n (q := 124) rfl rfl dX8_digest_123 rfl ?_
        refine g_Vw (q := 127) (d' := 6) (i := 90) (av := [.int (iI (i))]) (st := []) kvX8_123 (t_X8_bitsOf l h2 0 S sv l1 i hi) (by decide) A2 rfl (Nat.le_of_ble_eq_true rfl) ⟨(Nat.le_of_ble_eq_true rfl), (Nat.le_of_ble_eq_true rfl)⟩ ⟨(Nat.le_of_ble_eq_true rfl), (Nat.le_of_ble_eq_true rfl)⟩ rfl rfl dX8_digest_124 rfl (fun v h3 hp => ?_)
        obtain ⟨rfl, n1, n2, n3⟩ := hp
        have hsz := szP_le n2.LOk (pn_ok (f := (S.1 i).2) o1).1 (Nat.le_refl (pn (S.1 i).1 (S.1 i).2))
        obtain ⟨w3, pst3, bg3, mn3, lz3, A3, ⟨B3, -⟩, -, W3, -⟩ := id n1
        refine g_istore (q := 129) (al2 := [some (.ref (90)), some (.long (d2)), none, some (.int (iI (i))), some (.int (iI (szP (S.1 i).1 (S.1 i).2 (pn (S.1 i).1 (S.1 i).2)))), none]) (by decide) rfl rfl dX8_digest_127 rfl ?_
        refine g_iconst (q := 130) dX8_digest_129 rfl ?_
        refine g_istore (q := 132) (al2 := [some (.ref (90)), some (.long (d2)), none, some (.int (iI (i))), some (.int (iI (szP (S.1 i).1 (S.1 i).2 (pn (S.1 i).1 (S.1 i).2)))), some (.int (iI (0)))]) (by decide) rfl rfl dX8_digest_130 rfl ?_
        refine loopG (σ := Nat) (P := fun k => G l noX mX8_digest 7 0 0 (wP (fun v h' => v = .long (dig S sv) ∧ MRep h' 0 S sv ∧ FrM h h')) 0 0 132 [some (.ref (90)), some (.long (mxR d2 (cbit (S.1 i).1 (S.1 i).2) k)), none, some (.int (iI (i))), some (.int (iI (szP (S.1 i).1 (S.1 i).2 (pn (S.1 i).1 (S.1 i).2)))), some (.int (iI (k)))] [] NN h3) (I := fun k => (k : Int) ≤ szP (S.1 i).1 (S.1 i).2 (pn (S.1 i).1 (S.1 i).2)) (fun k => (szP (S.1 i).1 (S.1 i).2 (pn (S.1 i).1 (S.1 i).2) - k).toNat) ?_ 0 (by omega)
        intro k hI ih
        refine g_iload (q := 134) rfl dX8_digest_132 rfl ?_
        refine g_iload (q := 136) rfl dX8_digest_134 rfl ?_
        refine g_icmp_ge (t := 158) (q := 139) ⟨by omega, by omega⟩ ⟨by omega, by omega⟩ dX8_digest_136 rfl rfl (fun c136 => ?_) (fun c136 => ?_)
        · have ek : k = (szP (S.1 i).1 (S.1 i).2 (pn (S.1 i).1 (S.1 i).2)).toNat := by omega
          have ed : dgA S (i + 1) = mxR d2 (cbit (S.1 i).1 (S.1 i).2) k := by rw [ek, ← hd2, ← hd1, ← hd]; rfl
          rw [← ed]
          refine g_iinc (q := 161) (al2 := [some (.ref (90)), some (.long (dgA S (i + 1))), none, some (.int (iI (i + 1))), some (.int (iI (szP (S.1 i).1 (S.1 i).2 (pn (S.1 i).1 (S.1 i).2)))), some (.int (iI (k)))]) rfl (by decide) rfl rfl dX8_digest_158 rfl ?_
          refine g_goto (q := 11) dX8_digest_161 rfl ?_
          refine g_drop (al2 := [some (.ref (90)), some (.long (dgA S (i + 1))), none, some (.int (iI (i + 1))), none, some (.int (iI (k)))]) 4 rfl ?_
          refine g_drop (al2 := [some (.ref (90)), some (.long (dgA S (i + 1))), none, some (.int (iI (i + 1))), none, none]) 5 rfl ?_
          exact iho (i + 1, h3) ⟨show i + 1 ≤ 4 by omega, n1, fun j hj => (n3 j (by omega)).trans ((l3 j (by omega)).trans (fr1 j hj))⟩ (show 4 - (i + 1) < 4 - i by omega)
        · refine g_lload_n (q := 140) rfl rfl dX8_digest_139 rfl ?_
          refine g_aload_n (q := 141) rfl rfl dX8_digest_140 rfl ?_
          refine g_iload_n (q := 142) rfl rfl dX8_digest_141 rfl ?_
          refine g_iload (q := 144) rfl dX8_digest_142 rfl ?_
          refine g_Vr (q := 147) (d' := 6) (i := 90) (av := [.int (iI (i)), .int (iI (k))]) (st := [.long (mxR d2 (cbit (S.1 i).1 (S.1 i).2) k)]) (v := .int (iI (cbit (S.1 i).1 (S.1 i).2 k))) kvX8_132 (t_X8_bitOf l h3 i (S.1 i).1 (S.1 i).2 n2 k (by omega) (by omega)) (by decide) A3 rfl (Nat.le_of_ble_eq_true rfl) ⟨(Nat.le_of_ble_eq_true rfl), (Nat.le_of_ble_eq_true rfl)⟩ ⟨(Nat.le_of_ble_eq_true rfl), (Nat.le_of_ble_eq_true rfl)⟩ rfl rfl dX8_digest_144 rfl ?_
          refine g_i2l (q := 148) dX8_digest_147 rfl ?_
          refine g_Sr (q := 151) (d' := 0) (av := [.long (mxR d2 (cbit (S.1 i).1 (S.1 i).2) k), .long ((iI (cbit (S.1 i).1 (S.1 i).2 k)).toInt64)]) (st := []) (v := .long (mx (mxR d2 (cbit (S.1 i).1 (S.1 i).2) k) (cbit (S.1 i).1 (S.1 i).2 k))) ksX8_161 (t_X8_mixed l h3 (mxR d2 (cbit (S.1 i).1 (S.1 i).2) k) (cbit (S.1 i).1 (S.1 i).2 k)) rfl (Nat.le_of_ble_eq_true rfl) ⟨(Nat.le_of_ble_eq_true rfl), (Nat.le_of_ble_eq_true rfl)⟩ ⟨(Nat.le_of_ble_eq_true rfl), (Nat.le_of_ble_eq_true rfl)⟩ rfl rfl dX8_digest_148 rfl ?_
          refine g_lstore_n (q := 152) (al2 := [some (.ref (90)), some (.long (mx (mxR d2 (cbit (S.1 i).1 (S.1 i).2) k) (cbit (S.1 i).1 (S.1 i).2 k))), none, some (.int (iI (i))), some (.int (iI (szP (S.1 i).1 (S.1 i).2 (pn (S.1 i).1 (S.1 i).2)))), some (.int (iI (k)))]) rfl (by decide) rfl rfl dX8_digest_151 rfl ?_
          refine g_iinc (q := 155) (al2 := [some (.ref (90)), some (.long (mx (mxR d2 (cbit (S.1 i).1 (S.1 i).2) k) (cbit (S.1 i).1 (S.1 i).2 k))), none, some (.int (iI (i))), some (.int (iI (szP (S.1 i).1 (S.1 i).2 (pn (S.1 i).1 (S.1 i).2)))), some (.int (iI (k + 1)))]) rfl (by decide) rfl rfl dX8_digest_152 rfl ?_
          refine g_goto (q := 132) dX8_digest_155 rfl ?_
          exact ih (k + 1) (by omega) (by show (szP (S.1 i).1 (S.1 i).2 (pn (S.1 i).1 (S.1 i).2) - ((k + 1 : Nat) : Int)).toNat < (szP (S.1 i).1 (S.1 i).2 (pn (S.1 i).1 (S.1 i).2) - k).toNat; omega)
      · have efc : fcs (S.1 i).1 (S.1 i).2 k = fct (S.1 i).2 (pb (S.1 i).1 (S.1 i).2 (k / 6)) (pb (S.1 i).1 (S.1 i).2 (k / 6 + 1)) ((k : Int) % 6) := by unfold fcs; rw [show ((k : Int) / 6).toNat = k / 6 by omega]
        refine g_lload_n (q := 96) rfl rfl dX8_digest_95 rfl ?_
        refine g_aload_n (q := 97) rfl rfl dX8_digest_96 rfl ?_
        refine g_iload_n (q := 98) rfl rfl dX8_digest_97 rfl ?_
        refine g_iload (q := 100) rfl dX8_digest_98 rfl ?_
        refine g_bipush (q := 102) (by decide) dX8_digest_100 rfl ?_
        refine g_idiv (q := 103) (by omega) (by omega) (by omega) (by omega) dX8_digest_102 rfl ?_
        rw [show (k : Int) / 6 = ((k / 6 : Nat) : Int) by omega]
        refine g_iload (q := 105) rfl dX8_digest_103 rfl ?_
        refine g_bipush (q := 107) (by decide) dX8_digest_105 rfl ?_
        refine g_irem (q := 108) (by omega) (by omega) (by omega) (by omega) dX8_digest_107 rfl ?_
        refine g_Vr (q := 111) (d' := 5) (i := 90) (av := [.int (iI (i)), .int (iI (((k / 6 : Nat) : Int))), .int (iI (k % 6))]) (st := [.long (mxR (mx d1 (pn (S.1 i).1 (S.1 i).2 : Int)) (fcs (S.1 i).1 (S.1 i).2) k)]) (v := .int (iI (fcs (S.1 i).1 (S.1 i).2 k))) kvX8_120 (by have := t_X8_property l h2 i (S.1 i).1 (S.1 i).2 l2 (k / 6) (by omega) ((k : Int) % 6) (by omega) (by omega); rw [← efc] at this; exact this) (by decide) A2 rfl (Nat.le_of_ble_eq_true rfl) ⟨(Nat.le_of_ble_eq_true rfl), (Nat.le_of_ble_eq_true rfl)⟩ ⟨(Nat.le_of_ble_eq_true rfl), (Nat.le_of_ble_eq_true rfl)⟩ rfl rfl dX8_digest_108 rfl ?_
        refine g_i2l (q := 112) dX8_digest_111 rfl ?_
        refine g_Sr (q := 115) (d' := 0) (av := [.long (mxR (mx d1 (pn (S.1 i).1 (S.1 i).2 : Int)) (fcs (S.1 i).1 (S.1 i).2) k), .long ((iI (fcs (S.1 i).1 (S.1 i).2 k)).toInt64)]) (st := []) (v := .long (mx (mxR (mx d1 (pn (S.1 i).1 (S.1 i).2 : Int)) (fcs (S.1 i).1 (S.1 i).2) k) (fcs (S.1 i).1 (S.1 i).2 k))) ksX8_161 (t_X8_mixed l h2 (mxR (mx d1 (pn (S.1 i).1 (S.1 i).2 : Int)) (fcs (S.1 i).1 (S.1 i).2) k) (fcs (S.1 i).1 (S.1 i).2 k)) rfl (Nat.le_of_ble_eq_true rfl) ⟨(Nat.le_of_ble_eq_true rfl), (Nat.le_of_ble_eq_true rfl)⟩ ⟨(Nat.le_of_ble_eq_true rfl), (Nat.le_of_ble_eq_true rfl)⟩ rfl rfl dX8_digest_112 rfl ?_
        refine g_lstore_n (q := 116) (al2 := [some (.ref (90)), some (.long (mx (mxR (mx d1 (pn (S.1 i).1 (S.1 i).2 : Int)) (fcs (S.1 i).1 (S.1 i).2) k) (fcs (S.1 i).1 (S.1 i).2 k))), none, some (.int (iI (i))), some (.int (iI (k))), none]) rfl (by decide) rfl rfl dX8_digest_115 rfl ?_
        refine g_iinc (q := 119) (al2 := [some (.ref (90)), some (.long (mx (mxR (mx d1 (pn (S.1 i).1 (S.1 i).2 : Int)) (fcs (S.1 i).1 (S.1 i).2) k) (fcs (S.1 i).1 (S.1 i).2 k))), none, some (.int (iI (i))), some (.int (iI (k + 1))), none]) rfl (by decide) rfl rfl dX8_digest_116 rfl ?_
        refine g_goto (q := 81) dX8_digest_119 rfl ?_
        exact ih (k + 1) (by omega) (by omega)
    · refine g_lload_n (q := 43) rfl rfl dX8_digest_42 rfl ?_
      refine g_aload_n (q := 44) rfl rfl dX8_digest_43 rfl ?_
      refine g_iload_n (q := 45) rfl rfl dX8_digest_44 rfl ?_
      refine g_iload (q := 47) rfl dX8_digest_45 rfl ?_
      refine g_Vr (q := 50) (d' := 0) (i := 90) (av := [.int (iI (i)), .int (iI (k))]) (st := [.long (mxR (mx d ((S.1 i).1)) (S.1 i).2 k)]) (v := .int (iI ((S.1 i).2 k))) kvX8_56 (t_X8_doc l h1 i (S.1 i).1 (S.1 i).2 (hM1.doc hi) k (by omega) (by omega)) (by decide) A1 rfl (Nat.le_of_ble_eq_true rfl) ⟨(Nat.le_of_ble_eq_true rfl), (Nat.le_of_ble_eq_true rfl)⟩ ⟨(Nat.le_of_ble_eq_true rfl), (Nat.le_of_ble_eq_true rfl)⟩ rfl rfl dX8_digest_47 rfl ?_
      refine g_i2l (q := 51) dX8_digest_50 rfl ?_
      refine g_Sr (q := 54) (d' := 0) (av := [.long (mxR (mx d ((S.1 i).1)) (S.1 i).2 k), .long ((iI ((S.1 i).2 k)).toInt64)]) (st := []) (v := .long (mx (mxR (mx d ((S.1 i).1)) (S.1 i).2 k) ((S.1 i).2 k))) ksX8_161 (t_X8_mixed l h1 (mxR (mx d ((S.1 i).1)) (S.1 i).2 k) ((S.1 i).2 k)) rfl (Nat.le_of_ble_eq_true rfl) ⟨(Nat.le_of_ble_eq_true rfl), (Nat.le_of_ble_eq_true rfl)⟩ ⟨(Nat.le_of_ble_eq_true rfl), (Nat.le_of_ble_eq_true rfl)⟩ rfl rfl dX8_digest_51 rfl ?_
      refine g_lstore_n (q := 55) (al2 := [some (.ref (90)), some (.long (mx (mxR (mx d ((S.1 i).1)) (S.1 i).2 k) ((S.1 i).2 k))), none, some (.int (iI (i))), some (.int (iI (k))), none]) rfl (by decide) rfl rfl dX8_digest_54 rfl ?_
      refine g_iinc (q := 58) (al2 := [some (.ref (90)), some (.long (mx (mxR (mx d ((S.1 i).1)) (S.1 i).2 k) ((S.1 i).2 k))), none, some (.int (iI (i))), some (.int (iI (k + 1))), none]) rfl (by decide) rfl rfl dX8_digest_55 rfl ?_
      refine g_goto (q := 31) dX8_digest_58 rfl ?_
      exact ih (k + 1) (by omega) (by show ((S.1 i).1 - ((k + 1 : Nat) : Int)).toNat < ((S.1 i).1 - k).toNat; omega)
