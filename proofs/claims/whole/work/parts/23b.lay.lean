/-! ===== the reference: lay ===== -/
set_option maxRecDepth 4000 in
theorem t_X8_lay (l : Launch) (h : EHp) (th : Int) (S : ASt) (sv : List ASt) (hM : MRep h th S sv) (i : Nat) (hi : i < 4) : CT l mX8_lay 4 0 0 [.ref (90), .int (iI (i))] NN h (vP (fun h' => MRep h' th S sv ∧ MLay h' i (S.1 i).1 (S.1 i).2 ∧ ∀ j, (j < 93 ∨ 98 < j) → h' j = h j)) := by
  obtain ⟨w, pst, bg, mn, lz, hA, ⟨m1, m2, m3, m4, m5⟩, ⟨⟨cs, s1⟩, ⟨ct, s2⟩, ⟨nx, s3⟩, ⟨fd, s4⟩, ⟨od, s5⟩⟩, hW, hP, hY⟩ := id hM
  have hD := hM.doc hi
  obtain ⟨wc, hO, wd⟩ := hW.1 i hi
  obtain ⟨o1, o2, o3, o4⟩ := id hO
  obtain ⟨y1, y2⟩ := hY i hi
  refine CT.of (by decide) (Nat.le_of_ble_eq_true rfl) ?_
  refine g_al (al2 := [some (.ref (90)), some (.int (iI (i))), none, none, none, none]) rfl ?_
  refine g_aload_n (q := 1) rfl rfl dX8_lay_0 rfl ?_
  refine g_get (q := 4) fX8_22r (by decide) hA rfl dX8_lay_1 rfl ?_
  refine g_iload_n (q := 5) rfl rfl dX8_lay_4 rfl ?_
  refine g_baload (q := 6) (by decide) m5 (by omega) (by omega) (by decide) dX8_lay_5 rfl ?_
  refine g_if_eq (t := 10) (q := 9) ⟨by omega, by omega⟩ dX8_lay_6 rfl rfl (fun c6 => ?_) (fun c6 => ?_)
  · refine g_aload_n (q := 11) rfl rfl dX8_lay_10 rfl ?_
    refine g_get (q := 14) fX8_22r (by decide) hA rfl dX8_lay_11 rfl ?_
    refine g_iload_n (q := 15) rfl rfl dX8_lay_14 rfl ?_
    refine g_iconst (q := 16) dX8_lay_15 rfl ?_
    refine g_bastore (q := 17) (by decide) (by decide) m5 (by omega) (by omega) (by decide) dX8_lay_16 rfl ?_
    refine hp_in (fun hh1 ehh1 => ?_)
    have fc2 : hh1 90 = cO 7 [.int (iI (th)), .ref (91), .ref (92), .int (iI (sv.length)), .ref (93), .ref (94), .ref (95), .ref (96), .ref (97), .ref (98), .ref (99), .ref (100)] := by rw [ehh1, ueh_n (by decide)]; exact hA
    have fc3 : hh1 91 = cI 272 w := by rw [ehh1, ueh_n (by decide)]; exact m1
    have fc4 : hh1 95 = cZ 4 (ui lz i 1) := by rw [ehh1]; exact ueh_s
    have fc5 : hh1 93 = cI 260 bg := by rw [ehh1, ueh_n (by decide)]; exact m3
    have fc6 : hh1 94 = cI 4 mn := by rw [ehh1, ueh_n (by decide)]; exact m4
    have fc7 : hh1 96 = cI 65 cs := by rw [ehh1, ueh_n (by decide)]; exact s1
    have fc8 : hh1 97 = cI 65 ct := by rw [ehh1, ueh_n (by decide)]; exact s2
    have fc9 : hh1 98 = cI 65 nx := by rw [ehh1, ueh_n (by decide)]; exact s3
    refine g_aload_n (q := 18) rfl rfl dX8_lay_17 rfl ?_
    refine g_get (q := 21) fX8_7r (by decide) fc2 rfl dX8_lay_18 rfl ?_
    refine g_iload_n (q := 22) rfl rfl dX8_lay_21 rfl ?_
    refine g_iaload (q := 23) (by decide) fc3 (by omega) (by omega) (by decide) dX8_lay_22 rfl ?_
    rw [wc]
    refine g_istore_n (q := 24) (al2 := [some (.ref (90)), some (.int (iI (i))), some (.int (iI ((S.1 i).1))), none, none, none]) rfl (by decide) rfl rfl dX8_lay_23 rfl ?_
    refine g_aload_n (q := 25) rfl rfl dX8_lay_24 rfl ?_
    refine g_get (q := 28) fX8_26r (by decide) fc2 rfl dX8_lay_25 rfl ?_
    refine g_iload_n (q := 29) rfl rfl dX8_lay_28 rfl ?_
    refine g_iconst (q := 30) dX8_lay_29 rfl ?_
    refine g_iastore (q := 31) (by decide) fc7 (by omega) (by omega) (by decide) dX8_lay_30 rfl ?_
    refine hp_in (fun hh10 ehh10 => ?_)
    have fc11 : hh10 90 = cO 7 [.int (iI (th)), .ref (91), .ref (92), .int (iI (sv.length)), .ref (93), .ref (94), .ref (95), .ref (96), .ref (97), .ref (98), .ref (99), .ref (100)] := by rw [ehh10, ueh_n (by decide)]; exact fc2
    have fc12 : hh10 91 = cI 272 w := by rw [ehh10, ueh_n (by decide)]; exact fc3
    have fc13 : hh10 95 = cZ 4 (ui lz i 1) := by rw [ehh10, ueh_n (by decide)]; exact fc4
    have fc14 : hh10 93 = cI 260 bg := by rw [ehh10, ueh_n (by decide)]; exact fc5
    have fc15 : hh10 94 = cI 4 mn := by rw [ehh10, ueh_n (by decide)]; exact fc6
    have fc16 : hh10 96 = cI 65 (ui cs ((S.1 i).1) 0) := by rw [ehh10]; exact ueh_s
    have fc17 : hh10 97 = cI 65 ct := by rw [ehh10, ueh_n (by decide)]; exact fc8
    have fc18 : hh10 98 = cI 65 nx := by rw [ehh10, ueh_n (by decide)]; exact fc9
    refine g_aload_n (q := 32) rfl rfl dX8_lay_31 rfl ?_
    refine g_get (q := 35) fX8_29r (by decide) fc11 rfl dX8_lay_32 rfl ?_
    refine g_iload_n (q := 36) rfl rfl dX8_lay_35 rfl ?_
    refine g_iconst (q := 37) dX8_lay_36 rfl ?_
    refine g_iastore (q := 38) (by decide) fc17 (by omega) (by omega) (by decide) dX8_lay_37 rfl ?_
    refine hp_in (fun hh19 ehh19 => ?_)
    have fc20 : hh19 90 = cO 7 [.int (iI (th)), .ref (91), .ref (92), .int (iI (sv.length)), .ref (93), .ref (94), .ref (95), .ref (96), .ref (97), .ref (98), .ref (99), .ref (100)] := by rw [ehh19, ueh_n (by decide)]; exact fc11
    have fc21 : hh19 91 = cI 272 w := by rw [ehh19, ueh_n (by decide)]; exact fc12
    have fc22 : hh19 95 = cZ 4 (ui lz i 1) := by rw [ehh19, ueh_n (by decide)]; exact fc13
    have fc23 : hh19 93 = cI 260 bg := by rw [ehh19, ueh_n (by decide)]; exact fc14
    have fc24 : hh19 94 = cI 4 mn := by rw [ehh19, ueh_n (by decide)]; exact fc15
    have fc25 : hh19 96 = cI 65 (ui cs ((S.1 i).1) 0) := by rw [ehh19, ueh_n (by decide)]; exact fc16
    have fc26 : hh19 97 = cI 65 (ui ct ((S.1 i).1) 0) := by rw [ehh19]; exact ueh_s
    have fc27 : hh19 98 = cI 65 nx := by rw [ehh19, ueh_n (by decide)]; exact fc18
    have f1 : ∀ j, j ≠ 95 → j ≠ 96 → j ≠ 97 → j ≠ 98 → hh19 j = h j := fun j x y z u => by rw [ehh19, ueh_n z, ehh10, ueh_n y, ehh1, ueh_n x]
    have wt0 := wt_end (ds := (S.1 i).2) o1
    refine g_iload_n (q := 39) rfl rfl dX8_lay_38 rfl ?_
    refine g_iconst (q := 40) dX8_lay_39 rfl ?_
    refine g_isub (q := 41) dX8_lay_40 rfl ?_
    refine g_istore_n (q := 42) (al2 := [some (.ref (90)), some (.int (iI (i))), some (.int (iI ((S.1 i).1))), some (.int (iI (((S.1 i).1) - 1))), none, none]) rfl (by decide) rfl rfl dX8_lay_41 rfl ?_
    refine loopG (σ := Int × (Int → Int) × (Int → Int) × (Int → Int) × EHp) (P := fun zz => match zz with | (q, cs1, ct1, nx1, h2) => G l noX mX8_lay 4 0 0 (vP (fun h' => MRep h' th S sv ∧ MLay h' i (S.1 i).1 (S.1 i).2 ∧ ∀ j, (j < 93 ∨ 98 < j) → h' j = h j)) 0 0 42 [some (.ref (90)), some (.int (iI (i))), some (.int (iI ((S.1 i).1))), some (.int (iI (q))), none, none] [] NN h2) (I := fun zz => match zz with | (q, cs1, ct1, nx1, h2) => -1 ≤ q ∧ q < (S.1 i).1 ∧ h2 95 = cZ 4 (ui lz i 1) ∧ h2 96 = cI 65 cs1 ∧ h2 97 = cI 65 ct1 ∧ h2 98 = cI 65 nx1 ∧ (∀ e, q < e → e ≤ (S.1 i).1 → cs1 e * 128 + ct1 e = wt (S.1 i).1 (S.1 i).2 e ∧ 0 ≤ ct1 e ∧ ct1 e ≤ (S.1 i).1 - e ∧ 0 ≤ cs1 e ∧ cs1 e ≤ 40000) ∧ (∀ e, q < e → e < (S.1 i).1 → nx1 e = nxt (S.1 i).1 (S.1 i).2 e) ∧ (∀ j, j ≠ 95 → j ≠ 96 → j ≠ 97 → j ≠ 98 → h2 j = h j)) (fun zz => match zz with | (q, cs1, ct1, nx1, h2) => (q + 1).toNat) ?_ ((S.1 i).1 - 1, ui cs (S.1 i).1 0, ui ct (S.1 i).1 0, nx, hh19) ⟨by omega, by omega, fc22, fc25, fc26, fc27, fun e a b => by
        have ee : e = (S.1 i).1 := by omega
        unfold ui
        rw [if_pos ee, if_pos ee, ee, wt0]; omega, fun e a b => by omega, f1⟩
    rintro ⟨q, cs1, ct1, nx1, h2⟩ hI ih
    obtain ⟨q0, q1, z95, z96, z97, z98, dpq, nxq, fr2⟩ := hI
    have b90 : h2 90 = _ := (fr2 90 (by decide) (by decide) (by decide) (by decide)).trans hA
    have b93 : h2 93 = _ := (fr2 93 (by decide) (by decide) (by decide) (by decide)).trans m3
    have b94 : h2 94 = _ := (fr2 94 (by decide) (by decide) (by decide) (by decide)).trans m4
    refine g_iload_n (q := 43) rfl rfl dX8_lay_42 rfl ?_
    refine g_if_lt (t := 166) (q := 46) ⟨by omega, by omega⟩ dX8_lay_43 rfl rfl (fun c43 => ?_) (fun c43 => ?_)
    · have eq1 : q = -1 := by omega
      subst eq1
      have c91 : h2 91 = _ := (fr2 91 (by decide) (by decide) (by decide) (by decide)).trans m1
      refine g_bipush (q := 168) (by decide) dX8_lay_166 rfl ?_
      refine g_iload_n (q := 169) rfl rfl dX8_lay_168 rfl ?_
      refine g_imul (q := 170) dX8_lay_169 rfl ?_
      refine g_istore_n (q := 171) (al2 := [some (.ref (90)), some (.int (iI (i))), some (.int (iI ((S.1 i).1))), some (.int (iI (65 * i))), none, none]) rfl (by decide) rfl rfl dX8_lay_170 rfl ?_
      refine g_aload_n (q := 172) rfl rfl dX8_lay_171 rfl ?_
      refine g_get (q := 175) fX8_16r (by decide) b90 rfl dX8_lay_172 rfl ?_
      refine g_iload_n (q := 176) rfl rfl dX8_lay_175 rfl ?_
      refine g_iconst (q := 177) dX8_lay_176 rfl ?_
      refine g_iastore (q := 178) (by decide) b93 (by omega) (by omega) (by decide) dX8_lay_177 rfl ?_
      refine hp_in (fun hh28 ehh28 => ?_)
      have fc29 : hh28 90 = cO 7 [.int (iI (th)), .ref (91), .ref (92), .int (iI (sv.length)), .ref (93), .ref (94), .ref (95), .ref (96), .ref (97), .ref (98), .ref (99), .ref (100)] := by rw [ehh28, ueh_n (by decide)]; exact b90
      have fc30 : hh28 93 = cI 260 (ui bg (65 * i) 0) := by rw [ehh28]; exact ueh_s
      have fc31 : hh28 94 = cI 4 mn := by rw [ehh28, ueh_n (by decide)]; exact b94
      have fc32 : hh28 95 = cZ 4 (ui lz i 1) := by rw [ehh28, ueh_n (by decide)]; exact z95
      have fc33 : hh28 96 = cI 65 cs1 := by rw [ehh28, ueh_n (by decide)]; exact z96
      have fc34 : hh28 97 = cI 65 ct1 := by rw [ehh28, ueh_n (by decide)]; exact z97
      have fc35 : hh28 98 = cI 65 nx1 := by rw [ehh28, ueh_n (by decide)]; exact z98
      refine g_aload_n (q := 179) rfl rfl dX8_lay_178 rfl ?_
      refine g_get (q := 182) fX8_19r (by decide) fc29 rfl dX8_lay_179 rfl ?_
      refine g_iload_n (q := 183) rfl rfl dX8_lay_182 rfl ?_
      refine g_iconst (q := 184) dX8_lay_183 rfl ?_
      refine g_iastore (q := 185) (by decide) fc31 (by omega) (by omega) (by decide) dX8_lay_184 rfl ?_
      refine hp_in (fun hh36 ehh36 => ?_)
      have fc37 : hh36 90 = cO 7 [.int (iI (th)), .ref (91), .ref (92), .int (iI (sv.length)), .ref (93), .ref (94), .ref (95), .ref (96), .ref (97), .ref (98), .ref (99), .ref (100)] := by rw [ehh36, ueh_n (by decide)]; exact fc29
      have fc38 : hh36 93 = cI 260 (ui bg (65 * i) 0) := by rw [ehh36, ueh_n (by decide)]; exact fc30
      have fc39 : hh36 94 = cI 4 (ui mn i 0) := by rw [ehh36]; exact ueh_s
      have fc40 : hh36 95 = cZ 4 (ui lz i 1) := by rw [ehh36, ueh_n (by decide)]; exact fc32
      have fc41 : hh36 96 = cI 65 cs1 := by rw [ehh36, ueh_n (by decide)]; exact fc33
      have fc42 : hh36 97 = cI 65 ct1 := by rw [ehh36, ueh_n (by decide)]; exact fc34
      have fc43 : hh36 98 = cI 65 nx1 := by rw [ehh36, ueh_n (by decide)]; exact fc35
      refine loopG (σ := Nat × (Int → Int) × (Int → Int) × EHp) (P := fun zz => match zz with | (K, bg2, mn2, h4) => G l noX mX8_lay 4 0 0 (vP (fun h' => MRep h' th S sv ∧ MLay h' i (S.1 i).1 (S.1 i).2 ∧ ∀ j, (j < 93 ∨ 98 < j) → h' j = h j)) 0 0 185 [some (.ref (90)), some (.int (iI (i))), some (.int (iI ((S.1 i).1))), some (.int (iI (65 * i))), none, none] [] NN h4) (I := fun zz => match zz with | (K, bg2, mn2, h4) => (K : Int) ≤ (S.1 i).1 ∧ h4 93 = cI 260 bg2 ∧ h4 94 = cI 4 mn2 ∧ mn2 i = K ∧ (∀ t : Nat, t ≤ K → bg2 (65 * i + t) = pb (S.1 i).1 (S.1 i).2 t) ∧ (∀ t : Nat, t < K → pb (S.1 i).1 (S.1 i).2 t < (S.1 i).1) ∧ (∀ t : Int, (t < 65 * i ∨ 65 * i + 65 ≤ t) → bg2 t = bg t) ∧ (∀ t : Int, t ≠ i → mn2 t = mn t) ∧ ∀ j, j ≠ 93 → j ≠ 94 → h4 j = h2 j) (fun zz => match zz with | (K, bg2, mn2, h4) => (S.1 i).1.toNat - K) ?_ (0, ui bg (65 * i) 0, ui mn i 0, hh36) ⟨o1, fc38, fc39, by unfold ui; rw [if_pos rfl]; rfl, fun t a => by
          have e0 : t = 0 := by omega
          subst e0
          unfold ui
          rw [if_pos (by omega)]; rfl, fun t a => by omega, fun t a => by unfold ui; rw [if_neg (by omega)], fun t a => by unfold ui; rw [if_neg a], fun j x y => by rw [ehh36, ueh_n y, ehh28, ueh_n x]⟩
      rintro ⟨K, bg2, mn2, h4⟩ hI ih
      obtain ⟨K0, x93, x94, eK, ebg, epb, obg, omn, fr4⟩ := hI
      have d90 : h4 90 = _ := (fr4 90 (by decide) (by decide)).trans b90
      have d98 : h4 98 = _ := (fr4 98 (by decide) (by decide)).trans z98
      have pr := pb_rng (ds := (S.1 i).2) o1 K
      have pr3 := pr.2.2 K0
      have eb := ebg K (Nat.le_refl K)
      refine g_aload_n (q := 186) rfl rfl dX8_lay_185 rfl ?_
      refine g_get (q := 189) fX8_16r (by decide) d90 rfl dX8_lay_186 rfl ?_
      refine g_iload_n (q := 190) rfl rfl dX8_lay_189 rfl ?_
      refine g_aload_n (q := 191) rfl rfl dX8_lay_190 rfl ?_
      refine g_get (q := 194) fX8_19r (by decide) d90 rfl dX8_lay_191 rfl ?_
      refine g_iload_n (q := 195) rfl rfl dX8_lay_194 rfl ?_
      refine g_iaload (q := 196) (by decide) x94 (by omega) (by omega) (by decide) dX8_lay_195 rfl ?_
      rw [eK]
      refine g_iadd (q := 197) dX8_lay_196 rfl ?_
      refine g_iaload (q := 198) (by decide) x93 (by omega) (by omega) (by decide) dX8_lay_197 rfl ?_
      rw [eb]
      refine g_iload_n (q := 199) rfl rfl dX8_lay_198 rfl ?_
      refine g_icmp_ge (t := 248) (q := 202) ⟨by omega, by omega⟩ ⟨by omega, by omega⟩ dX8_lay_199 rfl rfl (fun c199 => ?_) (fun c199 => ?_)
      · have ep : pb (S.1 i).1 (S.1 i).2 K = (S.1 i).1 := by omega
        have eN : pn (S.1 i).1 (S.1 i).2 = K := pnF_eq epb ep (S.1 i).1.toNat 0 (Nat.zero_le _) (by omega)
        have ff : ∀ j, (j < 93 ∨ 98 < j) → h4 j = h j := fun j hj => (fr4 j (by omega) (by omega)).trans (fr2 j (by omega) (by omega) (by omega) (by omega))
        have d95 : h4 95 = _ := (fr4 95 (by decide) (by decide)).trans z95
        have d96 : h4 96 = _ := (fr4 96 (by decide) (by decide)).trans z96
        have d97 : h4 97 = _ := (fr4 97 (by decide) (by decide)).trans z97
        exact g_vreturn (fun z => NN_f z) (Nat.le_of_ble_eq_true rfl) (Nat.le_of_ble_eq_true rfl) dX8_lay_248 rfl (vP_in ⟨⟨w, pst, bg2, mn2, ui lz i 1, d90, ⟨(ff 91 (by omega)).trans m1, (ff 92 (by omega)).trans m2, x93, x94, d95⟩, ⟨⟨_, d96⟩, ⟨_, d97⟩, ⟨_, d98⟩, ⟨fd, (ff 99 (by omega)).trans s4⟩, ⟨od, (ff 100 (by omega)).trans s5⟩⟩, hW, hP, fun j hj => by
              by_cases e9 : j = i
              · subst e9
                refine ⟨Or.inr (by unfold ui; rw [if_pos rfl]), fun _ => ⟨by rw [eK, eN], fun t ht => ebg t (by omega)⟩⟩
              · obtain ⟨u1, u2⟩ := hY j hj
                have e8 : ui lz i 1 (j : Int) = lz j := by unfold ui; rw [if_neg (by omega)]
                rw [e8]
                refine ⟨u1, fun z => ?_⟩
                obtain ⟨u3, u4⟩ := u2 z
                have hOj := (hW.1 j hj).2.1
                have p64 := pn_64 hOj
                exact ⟨by rw [omn j (by omega)]; exact u3, fun t ht => by rw [obg _ (by omega)]; exact u4 t ht⟩⟩, ⟨⟨th, _, w, d90, (ff 91 (by omega)).trans m1, hi, wc, hO, wd⟩, bg2, mn2, x93, x94, by rw [eK, eN], fun t ht => ebg t (by omega)⟩, ff⟩)
      · have en := nxq (pb (S.1 i).1 (S.1 i).2 K) (by omega) (by omega)
        have hlt : pb (S.1 i).1 (S.1 i).2 K < (S.1 i).1 := by omega
        have es := pb_s (ds := (S.1 i).2) hlt
        refine g_aload_n (q := 203) rfl rfl dX8_lay_202 rfl ?_
        refine g_get (q := 206) fX8_16r (by decide) d90 rfl dX8_lay_203 rfl ?_
        refine g_iload_n (q := 207) rfl rfl dX8_lay_206 rfl ?_
        refine g_aload_n (q := 208) rfl rfl dX8_lay_207 rfl ?_
        refine g_get (q := 211) fX8_19r (by decide) d90 rfl dX8_lay_208 rfl ?_
        refine g_iload_n (q := 212) rfl rfl dX8_lay_211 rfl ?_
        refine g_iaload (q := 213) (by decide) x94 (by omega) (by omega) (by decide) dX8_lay_212 rfl ?_
        rw [eK]
        refine g_iadd (q := 214) dX8_lay_213 rfl ?_
        refine g_iconst (q := 215) dX8_lay_214 rfl ?_
        refine g_iadd (q := 216) dX8_lay_215 rfl ?_
        refine g_aload_n (q := 217) rfl rfl dX8_lay_216 rfl ?_
        refine g_get (q := 220) fX8_32r (by decide) d90 rfl dX8_lay_217 rfl ?_
        refine g_aload_n (q := 221) rfl rfl dX8_lay_220 rfl ?_
        refine g_get (q := 224) fX8_16r (by decide) d90 rfl dX8_lay_221 rfl ?_
        refine g_iload_n (q := 225) rfl rfl dX8_lay_224 rfl ?_
        refine g_aload_n (q := 226) rfl rfl dX8_lay_225 rfl ?_
        refine g_get (q := 229) fX8_19r (by decide) d90 rfl dX8_lay_226 rfl ?_
        refine g_iload_n (q := 230) rfl rfl dX8_lay_229 rfl ?_
        refine g_iaload (q := 231) (by decide) x94 (by omega) (by omega) (by decide) dX8_lay_230 rfl ?_
        rw [eK]
        refine g_iadd (q := 232) dX8_lay_231 rfl ?_
        refine g_iaload (q := 233) (by decide) x93 (by omega) (by omega) (by decide) dX8_lay_232 rfl ?_
        rw [eb]
        refine g_iaload (q := 234) (by decide) d98 (by omega) (by omega) (by decide) dX8_lay_233 rfl ?_
        rw [en, ← es]
        refine g_iastore (q := 235) (by decide) x93 (by omega) (by omega) (by decide) dX8_lay_234 rfl ?_
        refine hp_in (fun hh44 ehh44 => ?_)
        have fc45 : hh44 90 = cO 7 [.int (iI (th)), .ref (91), .ref (92), .int (iI (sv.length)), .ref (93), .ref (94), .ref (95), .ref (96), .ref (97), .ref (98), .ref (99), .ref (100)] := by rw [ehh44, ueh_n (by decide)]; exact d90
        have fc46 : hh44 93 = cI 260 (ui bg2 (((65 * i) + ((K : Int))) + 1) (pb (S.1 i).1 (S.1 i).2 (K + 1))) := by rw [ehh44]; exact ueh_s
        have fc47 : hh44 94 = cI 4 mn2 := by rw [ehh44, ueh_n (by decide)]; exact x94
        have fc48 : hh44 98 = cI 65 nx1 := by rw [ehh44, ueh_n (by decide)]; exact d98
        refine g_aload_n (q := 236) rfl rfl dX8_lay_235 rfl ?_
        refine g_get (q := 239) fX8_19r (by decide) fc45 rfl dX8_lay_236 rfl ?_
        refine g_iload_n (q := 240) rfl rfl dX8_lay_239 rfl ?_
        refine g_dup2 (q := 241) rfl rfl dX8_lay_240 rfl ?_
        refine g_iaload (q := 242) (by decide) fc47 (by omega) (by omega) (by decide) dX8_lay_241 rfl ?_
        refine g_iconst (q := 243) dX8_lay_242 rfl ?_
        refine g_iadd (q := 244) dX8_lay_243 rfl ?_
        refine g_iastore (q := 245) (by decide) fc47 (by omega) (by omega) (by decide) dX8_lay_244 rfl ?_
        refine hp_in (fun hh49 ehh49 => ?_)
        have fc50 : hh49 90 = cO 7 [.int (iI (th)), .ref (91), .ref (92), .int (iI (sv.length)), .ref (93), .ref (94), .ref (95), .ref (96), .ref (97), .ref (98), .ref (99), .ref (100)] := by rw [ehh49, ueh_n (by decide)]; exact fc45
        have fc51 : hh49 93 = cI 260 (ui bg2 (((65 * i) + ((K : Int))) + 1) (pb (S.1 i).1 (S.1 i).2 (K + 1))) := by rw [ehh49, ueh_n (by decide)]; exact fc46
        have fc52 : hh49 94 = cI 4 (ui mn2 i ((mn2 i) + 1)) := by rw [ehh49]; exact ueh_s
        have fc53 : hh49 98 = cI 65 nx1 := by rw [ehh49, ueh_n (by decide)]; exact fc48
        refine g_goto (q := 185) dX8_lay_245 rfl ?_
        exact ih (K + 1, _, _, hh49) ⟨by show ((K + 1 : Nat) : Int) ≤ _; omega, fc51, fc52, by unfold ui; rw [if_pos rfl, eK]; rfl, fun t ht => by
            unfold ui
            by_cases e9 : t = K + 1
            · rw [if_pos (by omega), e9]
            · rw [if_neg (by omega)]; exact ebg t (by omega), fun t ht => by
            by_cases e9 : t = K
            · rw [e9]; exact hlt
            · exact epb t (by omega), fun t ht => by unfold ui; rw [if_neg (by omega)]; exact obg t ht, fun t ht => by unfold ui; rw [if_neg ht]; exact omn t ht, fun j x y => by rw [ehh49, ueh_n y, ehh44, ueh_n x]; exact fr4 j x y⟩ (by show (S.1 i).1.toNat - (K + 1) < (S.1 i).1.toNat - K; omega)
    · have q00 : 0 ≤ q := by omega
      refine g_aload_n (q := 47) rfl rfl dX8_lay_46 rfl ?_
      refine g_get (q := 50) fX8_26r (by decide) b90 rfl dX8_lay_47 rfl ?_
      refine g_iload_n (q := 51) rfl rfl dX8_lay_50 rfl ?_
      refine g_ldc (q := 53) (z := 1000000) tw_763 dX8_lay_51 rfl ?_
      refine g_iastore (q := 54) (by decide) z96 (by omega) (by omega) (by decide) dX8_lay_53 rfl ?_
      refine hp_in (fun hh54 ehh54 => ?_)
      have fc55 : hh54 90 = cO 7 [.int (iI (th)), .ref (91), .ref (92), .int (iI (sv.length)), .ref (93), .ref (94), .ref (95), .ref (96), .ref (97), .ref (98), .ref (99), .ref (100)] := by rw [ehh54, ueh_n (by decide)]; exact b90
      have fc56 : hh54 93 = cI 260 bg := by rw [ehh54, ueh_n (by decide)]; exact b93
      have fc57 : hh54 94 = cI 4 mn := by rw [ehh54, ueh_n (by decide)]; exact b94
      have fc58 : hh54 95 = cZ 4 (ui lz i 1) := by rw [ehh54, ueh_n (by decide)]; exact z95
      have fc59 : hh54 96 = cI 65 (ui cs1 q 1000000) := by rw [ehh54]; exact ueh_s
      have fc60 : hh54 97 = cI 65 ct1 := by rw [ehh54, ueh_n (by decide)]; exact z97
      have fc61 : hh54 98 = cI 65 nx1 := by rw [ehh54, ueh_n (by decide)]; exact z98
      have g3 : ∀ j, j ≠ 96 → hh54 j = h2 j := fun j x => by rw [ehh54, ueh_n x]
      refine g_iload_n (q := 55) rfl rfl dX8_lay_54 rfl ?_
      refine g_iconst (q := 56) dX8_lay_55 rfl ?_
      refine g_iadd (q := 57) dX8_lay_56 rfl ?_
      refine g_istore (q := 59) (al2 := [some (.ref (90)), some (.int (iI (i))), some (.int (iI ((S.1 i).1))), some (.int (iI (q))), some (.int (iI (q + 1))), none]) (by decide) rfl rfl dX8_lay_57 rfl ?_
      refine loopG (σ := Int × (Int → Int) × (Int → Int) × (Int → Int) × EHp) (P := fun zz => match zz with | (e, cs2, ct2, nx2, h4) => G l noX mX8_lay 4 0 0 (vP (fun h' => MRep h' th S sv ∧ MLay h' i (S.1 i).1 (S.1 i).2 ∧ ∀ j, (j < 93 ∨ 98 < j) → h' j = h j)) 0 0 59 [some (.ref (90)), some (.int (iI (i))), some (.int (iI ((S.1 i).1))), some (.int (iI (q))), some (.int (iI (e))), none] [] NN h4) (I := fun zz => match zz with | (e, cs2, ct2, nx2, h4) => q + 1 ≤ e ∧ e ≤ (S.1 i).1 + 1 ∧ h4 95 = cZ 4 (ui lz i 1) ∧ h4 96 = cI 65 cs2 ∧ h4 97 = cI 65 ct2 ∧ h4 98 = cI 65 nx2 ∧ (∀ t, q < t → t ≤ (S.1 i).1 → cs2 t * 128 + ct2 t = wt (S.1 i).1 (S.1 i).2 t ∧ 0 ≤ ct2 t ∧ ct2 t ≤ (S.1 i).1 - t ∧ 0 ≤ cs2 t ∧ cs2 t ≤ 40000) ∧ (∀ t, q < t → t < (S.1 i).1 → nx2 t = nxt (S.1 i).1 (S.1 i).2 t) ∧ ((e = q + 1 ∧ cs2 q = 1000000) ∨ (q + 1 < e ∧ cs2 q * 128 + ct2 q = (mE (S.1 i).2 (wt (S.1 i).1 (S.1 i).2) q (e - 1 - q).toNat).1 ∧ nx2 q = (mE (S.1 i).2 (wt (S.1 i).1 (S.1 i).2) q (e - 1 - q).toNat).2 ∧ 0 ≤ ct2 q ∧ ct2 q ≤ (S.1 i).1 - q ∧ 0 ≤ cs2 q ∧ cs2 q ≤ 1000000)) ∧ (∀ j, j ≠ 95 → j ≠ 96 → j ≠ 97 → j ≠ 98 → h4 j = h j)) (fun zz => match zz with | (e, cs2, ct2, nx2, h4) => ((S.1 i).1 + 1 - e).toNat) ?_ (q + 1, ui cs1 q 1000000, ct1, nx1, hh54) ⟨Int.le_refl _, by omega, fc58, fc59, fc60, fc61, fun t a b => by
          unfold ui
          rw [if_neg (by omega)]
          exact dpq t a b, nxq, Or.inl ⟨rfl, by unfold ui; rw [if_pos rfl]⟩, fun j x y z u => (g3 j y).trans (fr2 j x y z u)⟩
      rintro ⟨e, cs2, ct2, nx2, h4⟩ hI ihi
      obtain ⟨e0, e1, v95, v96, v97, v98, dp4, nx4, cur, fr4⟩ := hI
      have c90 : h4 90 = _ := (fr4 90 (by decide) (by decide) (by decide) (by decide)).trans hA
      have c91 : h4 91 = _ := (fr4 91 (by decide) (by decide) (by decide) (by decide)).trans m1
      refine g_iload (q := 61) rfl dX8_lay_59 rfl ?_
      refine g_iload_n (q := 62) rfl rfl dX8_lay_61 rfl ?_
      refine g_icmp_gt (t := 160) (q := 65) ⟨by omega, by omega⟩ ⟨by omega, by omega⟩ dX8_lay_62 rfl rfl (fun c62 => ?_) (fun c62 => ?_)
      · have ee : e = (S.1 i).1 + 1 := by omega
        obtain ⟨-, r1, r2, r3, r4, r5, r6⟩ : q + 1 < e ∧ cs2 q * 128 + ct2 q = (mE (S.1 i).2 (wt (S.1 i).1 (S.1 i).2) q (e - 1 - q).toNat).1 ∧ nx2 q = (mE (S.1 i).2 (wt (S.1 i).1 (S.1 i).2) q (e - 1 - q).toNat).2 ∧ 0 ≤ ct2 q ∧ ct2 q ≤ (S.1 i).1 - q ∧ 0 ≤ cs2 q ∧ cs2 q ≤ 1000000 := by
          rcases cur with z | z
          · omega
          · exact z
        have ew := wt_at (ds := (S.1 i).2) q00 q1
        rw [show (e - 1 - q).toNat = ((S.1 i).1 - q).toNat by omega] at r1 r2
        have wr := wt_rng' hO q00 (Int.le_of_lt q1)
        refine g_iinc (q := 163) (al2 := [some (.ref (90)), some (.int (iI (i))), some (.int (iI ((S.1 i).1))), some (.int (iI (q + -1))), some (.int (iI (e))), none]) rfl (by decide) rfl rfl dX8_lay_160 rfl ?_
        refine g_goto (q := 42) dX8_lay_163 rfl ?_
        refine g_drop (al2 := [some (.ref (90)), some (.int (iI (i))), some (.int (iI ((S.1 i).1))), some (.int (iI (q + -1))), none, none]) 4 rfl ?_
        rw [show q + -1 = q - 1 by omega]
        exact ih (q - 1, cs2, ct2, nx2, h4) ⟨by omega, by omega, v95, v96, v97, v98, fun t a b => by
            by_cases e9 : t = q
            · rw [e9, ew]; exact ⟨r1, r3, r4, r5, by rw [← ew] at r1; omega⟩
            · exact dp4 t (by omega) b, fun t a b => by
            by_cases e9 : t = q
            · rw [e9]; exact r2
            · exact nx4 t (by omega) b, fr4⟩ (by show (q - 1 + 1).toNat < (q + 1).toNat; omega)
      · have hD4 : MDoc h4 i (S.1 i).1 (S.1 i).2 := ⟨th, _, w, c90, c91, hi, wc, hO, wd⟩
        obtain ⟨t1, t2, t3, t4, t5⟩ := dp4 e (by omega) (by omega)
        have pr := psz_rng hO q00 (show q < e by omega) (show e ≤ (S.1 i).1 by omega)
        have ms := mE_step (ds := (S.1 i).2) (W := wt (S.1 i).1 (S.1 i).2) (show q < e by omega)
        have gw : gW (S.1 i).2 (wt (S.1 i).1 (S.1 i).2) q e = (psz (S.1 i).2 q e + cs2 e) * 128 + (ct2 e + 1) := by unfold gW; omega
        have cq : 0 ≤ cs2 q ∧ cs2 q ≤ 1000000 := by rcases cur with z | z <;> omega
        refine g_aload_n (q := 66) rfl rfl dX8_lay_65 rfl ?_
        refine g_iload_n (q := 67) rfl rfl dX8_lay_66 rfl ?_
        refine g_iload_n (q := 68) rfl rfl dX8_lay_67 rfl ?_
        refine g_iload (q := 70) rfl dX8_lay_68 rfl ?_
        refine g_Vr (q := 73) (d' := 3) (i := 90) (av := [.int (iI (i)), .int (iI (q)), .int (iI (e))]) (st := []) (v := .int (iI (psz (S.1 i).2 q e))) kvX8_92 (t_X8_sizeOf l h4 i (S.1 i).1 (S.1 i).2 hD4 q e (by omega) (by omega) (by omega)) (by decide) c90 rfl (Nat.le_of_ble_eq_true rfl) ⟨(Nat.le_of_ble_eq_true rfl), (Nat.le_of_ble_eq_true rfl)⟩ ⟨(Nat.le_of_ble_eq_true rfl), (Nat.le_of_ble_eq_true rfl)⟩ rfl rfl dX8_lay_70 rfl ?_
        refine g_aload_n (q := 74) rfl rfl dX8_lay_73 rfl ?_
        refine g_get (q := 77) fX8_26r (by decide) c90 rfl dX8_lay_74 rfl ?_
        refine g_iload (q := 79) rfl dX8_lay_77 rfl ?_
        refine g_iaload (q := 80) (by decide) v96 (by omega) (by omega) (by decide) dX8_lay_79 rfl ?_
        refine g_iadd (q := 81) dX8_lay_80 rfl ?_
        refine g_istore (q := 83) (al2 := [some (.ref (90)), some (.int (iI (i))), some (.int (iI ((S.1 i).1))), some (.int (iI (q))), some (.int (iI (e))), some (.int (iI ((psz (S.1 i).2 q e) + (cs2 e))))]) (by decide) rfl rfl dX8_lay_81 rfl ?_
        refine g_iload (q := 85) rfl dX8_lay_83 rfl ?_
        refine g_aload_n (q := 86) rfl rfl dX8_lay_85 rfl ?_
        refine g_get (q := 89) fX8_26r (by decide) c90 rfl dX8_lay_86 rfl ?_
        refine g_iload_n (q := 90) rfl rfl dX8_lay_89 rfl ?_
        refine g_iaload (q := 91) (by decide) v96 (by omega) (by omega) (by decide) dX8_lay_90 rfl ?_
        refine g_icmp_lt (t := 123) (q := 94) ⟨by omega, by omega⟩ ⟨by omega, by omega⟩ dX8_lay_91 rfl rfl (fun c91 => ?_) (fun c91 => ?_)
        · refine g_aload_n (q := 124) rfl rfl dX8_lay_123 rfl ?_
          refine g_get (q := 127) fX8_26r (by decide) c90 rfl dX8_lay_124 rfl ?_
          refine g_iload_n (q := 128) rfl rfl dX8_lay_127 rfl ?_
          refine g_iload (q := 130) rfl dX8_lay_128 rfl ?_
          refine g_iastore (q := 131) (by decide) v96 (by omega) (by omega) (by decide) dX8_lay_130 rfl ?_
          refine hp_in (fun hh62 ehh62 => ?_)
          have fc63 : hh62 90 = cO 7 [.int (iI (th)), .ref (91), .ref (92), .int (iI (sv.length)), .ref (93), .ref (94), .ref (95), .ref (96), .ref (97), .ref (98), .ref (99), .ref (100)] := by rw [ehh62, ueh_n (by decide)]; exact c90
          have fc64 : hh62 95 = cZ 4 (ui lz i 1) := by rw [ehh62, ueh_n (by decide)]; exact v95
          have fc65 : hh62 96 = cI 65 (ui cs2 q ((psz (S.1 i).2 q e) + (cs2 e))) := by rw [ehh62]; exact ueh_s
          have fc66 : hh62 97 = cI 65 ct2 := by rw [ehh62, ueh_n (by decide)]; exact v97
          have fc67 : hh62 98 = cI 65 nx2 := by rw [ehh62, ueh_n (by decide)]; exact v98
          refine g_aload_n (q := 132) rfl rfl dX8_lay_131 rfl ?_
          refine g_get (q := 135) fX8_29r (by decide) fc63 rfl dX8_lay_132 rfl ?_
          refine g_iload_n (q := 136) rfl rfl dX8_lay_135 rfl ?_
          refine g_aload_n (q := 137) rfl rfl dX8_lay_136 rfl ?_
          refine g_get (q := 140) fX8_29r (by decide) fc63 rfl dX8_lay_137 rfl ?_
          refine g_iload (q := 142) rfl dX8_lay_140 rfl ?_
          refine g_iaload (q := 143) (by decide) fc66 (by omega) (by omega) (by decide) dX8_lay_142 rfl ?_
          refine g_iconst (q := 144) dX8_lay_143 rfl ?_
          refine g_iadd (q := 145) dX8_lay_144 rfl ?_
          refine g_iastore (q := 146) (by decide) fc66 (by omega) (by omega) (by decide) dX8_lay_145 rfl ?_
          refine hp_in (fun hh68 ehh68 => ?_)
          have fc69 : hh68 90 = cO 7 [.int (iI (th)), .ref (91), .ref (92), .int (iI (sv.length)), .ref (93), .ref (94), .ref (95), .ref (96), .ref (97), .ref (98), .ref (99), .ref (100)] := by rw [ehh68, ueh_n (by decide)]; exact fc63
          have fc70 : hh68 95 = cZ 4 (ui lz i 1) := by rw [ehh68, ueh_n (by decide)]; exact fc64
          have fc71 : hh68 96 = cI 65 (ui cs2 q ((psz (S.1 i).2 q e) + (cs2 e))) := by rw [ehh68, ueh_n (by decide)]; exact fc65
          have fc72 : hh68 97 = cI 65 (ui ct2 q ((ct2 e) + 1)) := by rw [ehh68]; exact ueh_s
          have fc73 : hh68 98 = cI 65 nx2 := by rw [ehh68, ueh_n (by decide)]; exact fc67
          refine g_aload_n (q := 147) rfl rfl dX8_lay_146 rfl ?_
          refine g_get (q := 150) fX8_32r (by decide) fc69 rfl dX8_lay_147 rfl ?_
          refine g_iload_n (q := 151) rfl rfl dX8_lay_150 rfl ?_
          refine g_iload (q := 153) rfl dX8_lay_151 rfl ?_
          refine g_iastore (q := 154) (by decide) fc73 (by omega) (by omega) (by decide) dX8_lay_153 rfl ?_
          refine hp_in (fun hh74 ehh74 => ?_)
          have fc75 : hh74 90 = cO 7 [.int (iI (th)), .ref (91), .ref (92), .int (iI (sv.length)), .ref (93), .ref (94), .ref (95), .ref (96), .ref (97), .ref (98), .ref (99), .ref (100)] := by rw [ehh74, ueh_n (by decide)]; exact fc69
          have fc76 : hh74 95 = cZ 4 (ui lz i 1) := by rw [ehh74, ueh_n (by decide)]; exact fc70
          have fc77 : hh74 96 = cI 65 (ui cs2 q ((psz (S.1 i).2 q e) + (cs2 e))) := by rw [ehh74, ueh_n (by decide)]; exact fc71
          have fc78 : hh74 97 = cI 65 (ui ct2 q ((ct2 e) + 1)) := by rw [ehh74, ueh_n (by decide)]; exact fc72
          have fc79 : hh74 98 = cI 65 (ui nx2 q e) := by rw [ehh74]; exact ueh_s
          refine g_iinc (q := 157) (al2 := [some (.ref (90)), some (.int (iI (i))), some (.int (iI ((S.1 i).1))), some (.int (iI (q))), some (.int (iI (e + 1))), some (.int (iI ((psz (S.1 i).2 q e) + (cs2 e))))]) rfl (by decide) rfl rfl dX8_lay_154 rfl ?_
          refine g_goto (q := 59) dX8_lay_157 rfl ?_
          refine g_drop (al2 := [some (.ref (90)), some (.int (iI (i))), some (.int (iI ((S.1 i).1))), some (.int (iI (q))), some (.int (iI (e + 1))), none]) 5 rfl ?_
          have up : mE (S.1 i).2 (wt (S.1 i).1 (S.1 i).2) q (e - q).toNat = ((psz (S.1 i).2 q e + cs2 e) * 128 + (ct2 e + 1), e) := by
            rw [ms, if_pos (by omega), gw]
          exact ihi (e + 1, _, _, _, hh74) ⟨by omega, by omega, fc76, fc77, fc78, fc79, fun t a b => by
              unfold ui
              rw [if_neg (by omega), if_neg (by omega)]
              exact dp4 t a b, fun t a b => by
              unfold ui
              rw [if_neg (by omega)]
              exact nx4 t a b, Or.inr ⟨by omega, by
              rw [show (e + 1 - 1 - q).toNat = (e - q).toNat by omega, up]
              unfold ui
              rw [if_pos rfl, if_pos rfl], by
              rw [show (e + 1 - 1 - q).toNat = (e - q).toNat by omega, up]
              unfold ui
              rw [if_pos rfl], by unfold ui; rw [if_pos rfl]; omega, by unfold ui; rw [if_pos rfl]; omega, by unfold ui; rw [if_pos rfl]; omega, by unfold ui; rw [if_pos rfl]; omega⟩, fun j x y z u => by rw [ehh74, ueh_n u, ehh68, ueh_n z, ehh62, ueh_n y]; exact fr4 j x y z u⟩ (by show ((S.1 i).1 + 1 - (e + 1)).toNat < ((S.1 i).1 + 1 - e).toNat; omega)
        · refine g_iload (q := 96) rfl dX8_lay_94 rfl ?_
          refine g_aload_n (q := 97) rfl rfl dX8_lay_96 rfl ?_
          refine g_get (q := 100) fX8_26r (by decide) c90 rfl dX8_lay_97 rfl ?_
          refine g_iload_n (q := 101) rfl rfl dX8_lay_100 rfl ?_
          refine g_iaload (q := 102) (by decide) v96 (by omega) (by omega) (by decide) dX8_lay_101 rfl ?_
          refine g_icmp_ne (t := 154) (q := 105) ⟨by omega, by omega⟩ ⟨by omega, by omega⟩ dX8_lay_102 rfl rfl (fun c102 => ?_) (fun c102 => ?_)
          · refine g_iinc (q := 157) (al2 := [some (.ref (90)), some (.int (iI (i))), some (.int (iI ((S.1 i).1))), some (.int (iI (q))), some (.int (iI (e + 1))), some (.int (iI ((psz (S.1 i).2 q e) + (cs2 e))))]) rfl (by decide) rfl rfl dX8_lay_154 rfl ?_
            refine g_goto (q := 59) dX8_lay_157 rfl ?_
            refine g_drop (al2 := [some (.ref (90)), some (.int (iI (i))), some (.int (iI ((S.1 i).1))), some (.int (iI (q))), some (.int (iI (e + 1))), none]) 5 rfl ?_
            obtain ⟨r0, r1, r2, r3, r4, r5, r6⟩ : q + 1 < e ∧ cs2 q * 128 + ct2 q = (mE (S.1 i).2 (wt (S.1 i).1 (S.1 i).2) q (e - 1 - q).toNat).1 ∧ nx2 q = (mE (S.1 i).2 (wt (S.1 i).1 (S.1 i).2) q (e - 1 - q).toNat).2 ∧ 0 ≤ ct2 q ∧ ct2 q ≤ (S.1 i).1 - q ∧ 0 ≤ cs2 q ∧ cs2 q ≤ 1000000 := by
              rcases cur with z | z
              · omega
              · exact z
            have up : mE (S.1 i).2 (wt (S.1 i).1 (S.1 i).2) q (e - q).toNat = mE (S.1 i).2 (wt (S.1 i).1 (S.1 i).2) q (e - 1 - q).toNat := by
              rw [ms, if_neg (by omega)]
            exact ihi (e + 1, cs2, ct2, nx2, h4) ⟨by omega, by omega, v95, v96, v97, v98, dp4, nx4, Or.inr ⟨by omega, by rw [show (e + 1 - 1 - q).toNat = (e - q).toNat by omega, up]; exact r1, by rw [show (e + 1 - 1 - q).toNat = (e - q).toNat by omega, up]; exact r2, r3, r4, r5, r6⟩, fr4⟩ (by show ((S.1 i).1 + 1 - (e + 1)).toNat < ((S.1 i).1 + 1 - e).toNat; omega)
          · have cq2 : q + 1 < e ∧ cs2 q * 128 + ct2 q = (mE (S.1 i).2 (wt (S.1 i).1 (S.1 i).2) q (e - 1 - q).toNat).1 ∧ nx2 q = (mE (S.1 i).2 (wt (S.1 i).1 (S.1 i).2) q (e - 1 - q).toNat).2 ∧ 0 ≤ ct2 q ∧ ct2 q ≤ (S.1 i).1 - q ∧ 0 ≤ cs2 q ∧ cs2 q ≤ 1000000 := by
              rcases cur with z | z
              · omega
              · exact z
            refine g_aload_n (q := 106) rfl rfl dX8_lay_105 rfl ?_
            refine g_get (q := 109) fX8_29r (by decide) c90 rfl dX8_lay_106 rfl ?_
            refine g_iload (q := 111) rfl dX8_lay_109 rfl ?_
            refine g_iaload (q := 112) (by decide) v97 (by omega) (by omega) (by decide) dX8_lay_111 rfl ?_
            refine g_iconst (q := 113) dX8_lay_112 rfl ?_
            refine g_iadd (q := 114) dX8_lay_113 rfl ?_
            refine g_aload_n (q := 115) rfl rfl dX8_lay_114 rfl ?_
            refine g_get (q := 118) fX8_29r (by decide) c90 rfl dX8_lay_115 rfl ?_
            refine g_iload_n (q := 119) rfl rfl dX8_lay_118 rfl ?_
            refine g_iaload (q := 120) (by decide) v97 (by omega) (by omega) (by decide) dX8_lay_119 rfl ?_
            refine g_icmp_ge (t := 154) (q := 123) ⟨by omega, by omega⟩ ⟨by omega, by omega⟩ dX8_lay_120 rfl rfl (fun c120 => ?_) (fun c120 => ?_)
            · refine g_iinc (q := 157) (al2 := [some (.ref (90)), some (.int (iI (i))), some (.int (iI ((S.1 i).1))), some (.int (iI (q))), some (.int (iI (e + 1))), some (.int (iI ((psz (S.1 i).2 q e) + (cs2 e))))]) rfl (by decide) rfl rfl dX8_lay_154 rfl ?_
              refine g_goto (q := 59) dX8_lay_157 rfl ?_
              refine g_drop (al2 := [some (.ref (90)), some (.int (iI (i))), some (.int (iI ((S.1 i).1))), some (.int (iI (q))), some (.int (iI (e + 1))), none]) 5 rfl ?_
              obtain ⟨r0, r1, r2, r3, r4, r5, r6⟩ : q + 1 < e ∧ cs2 q * 128 + ct2 q = (mE (S.1 i).2 (wt (S.1 i).1 (S.1 i).2) q (e - 1 - q).toNat).1 ∧ nx2 q = (mE (S.1 i).2 (wt (S.1 i).1 (S.1 i).2) q (e - 1 - q).toNat).2 ∧ 0 ≤ ct2 q ∧ ct2 q ≤ (S.1 i).1 - q ∧ 0 ≤ cs2 q ∧ cs2 q ≤ 1000000 := by
                rcases cur with z | z
                · omega
                · exact z
              have up : mE (S.1 i).2 (wt (S.1 i).1 (S.1 i).2) q (e - q).toNat = mE (S.1 i).2 (wt (S.1 i).1 (S.1 i).2) q (e - 1 - q).toNat := by
                rw [ms, if_neg (by omega)]
              exact ihi (e + 1, cs2, ct2, nx2, h4) ⟨by omega, by omega, v95, v96, v97, v98, dp4, nx4, Or.inr ⟨by omega, by rw [show (e + 1 - 1 - q).toNat = (e - q).toNat by omega, up]; exact r1, by rw [show (e + 1 - 1 - q).toNat = (e - q).toNat by omega, up]; exact r2, r3, r4, r5, r6⟩, fr4⟩ (by show ((S.1 i).1 + 1 - (e + 1)).toNat < ((S.1 i).1 + 1 - e).toNat; omega)
            · refine g_aload_n (q := 124) rfl rfl dX8_lay_123 rfl ?_
              refine g_get (q := 127) fX8_26r (by decide) c90 rfl dX8_lay_124 rfl ?_
              refine g_iload_n (q := 128) rfl rfl dX8_lay_127 rfl ?_
              refine g_iload (q := 130) rfl dX8_lay_128 rfl ?_
              refine g_iastore (q := 131) (by decide) v96 (by omega) (by omega) (by decide) dX8_lay_130 rfl ?_
              refine hp_in (fun hh80 ehh80 => ?_)
              have fc81 : hh80 90 = cO 7 [.int (iI (th)), .ref (91), .ref (92), .int (iI (sv.length)), .ref (93), .ref (94), .ref (95), .ref (96), .ref (97), .ref (98), .ref (99), .ref (100)] := by rw [ehh80, ueh_n (by decide)]; exact c90
              have fc82 : hh80 95 = cZ 4 (ui lz i 1) := by rw [ehh80, ueh_n (by decide)]; exact v95
              have fc83 : hh80 96 = cI 65 (ui cs2 q ((psz (S.1 i).2 q e) + (cs2 e))) := by rw [ehh80]; exact ueh_s
              have fc84 : hh80 97 = cI 65 ct2 := by rw [ehh80, ueh_n (by decide)]; exact v97
              have fc85 : hh80 98 = cI 65 nx2 := by rw [ehh80, ueh_n (by decide)]; exact v98
              refine g_aload_n (q := 132) rfl rfl dX8_lay_131 rfl ?_
              refine g_get (q := 135) fX8_29r (by decide) fc81 rfl dX8_lay_132 rfl ?_
              refine g_iload_n (q := 136) rfl rfl dX8_lay_135 rfl ?_
              refine g_aload_n (q := 137) rfl rfl dX8_lay_136 rfl ?_
              refine g_get (q := 140) fX8_29r (by decide) fc81 rfl dX8_lay_137 rfl ?_
              refine g_iload (q := 142) rfl dX8_lay_140 rfl ?_
              refine g_iaload (q := 143) (by decide) fc84 (by omega) (by omega) (by decide) dX8_lay_142 rfl ?_
              refine g_iconst (q := 144) dX8_lay_143 rfl ?_
              refine g_iadd (q := 145) dX8_lay_144 rfl ?_
              refine g_iastore (q := 146) (by decide) fc84 (by omega) (by omega) (by decide) dX8_lay_145 rfl ?_
              refine hp_in (fun hh86 ehh86 => ?_)
              have fc87 : hh86 90 = cO 7 [.int (iI (th)), .ref (91), .ref (92), .int (iI (sv.length)), .ref (93), .ref (94), .ref (95), .ref (96), .ref (97), .ref (98), .ref (99), .ref (100)] := by rw [ehh86, ueh_n (by decide)]; exact fc81
              have fc88 : hh86 95 = cZ 4 (ui lz i 1) := by rw [ehh86, ueh_n (by decide)]; exact fc82
              have fc89 : hh86 96 = cI 65 (ui cs2 q ((psz (S.1 i).2 q e) + (cs2 e))) := by rw [ehh86, ueh_n (by decide)]; exact fc83
              have fc90 : hh86 97 = cI 65 (ui ct2 q ((ct2 e) + 1)) := by rw [ehh86]; exact ueh_s
              have fc91 : hh86 98 = cI 65 nx2 := by rw [ehh86, ueh_n (by decide)]; exact fc85
              refine g_aload_n (q := 147) rfl rfl dX8_lay_146 rfl ?_
              refine g_get (q := 150) fX8_32r (by decide) fc87 rfl dX8_lay_147 rfl ?_
              refine g_iload_n (q := 151) rfl rfl dX8_lay_150 rfl ?_
              refine g_iload (q := 153) rfl dX8_lay_151 rfl ?_
              refine g_iastore (q := 154) (by decide) fc91 (by omega) (by omega) (by decide) dX8_lay_153 rfl ?_
              refine hp_in (fun hh92 ehh92 => ?_)
              have fc93 : hh92 90 = cO 7 [.int (iI (th)), .ref (91), .ref (92), .int (iI (sv.length)), .ref (93), .ref (94), .ref (95), .ref (96), .ref (97), .ref (98), .ref (99), .ref (100)] := by rw [ehh92, ueh_n (by decide)]; exact fc87
              have fc94 : hh92 95 = cZ 4 (ui lz i 1) := by rw [ehh92, ueh_n (by decide)]; exact fc88
              have fc95 : hh92 96 = cI 65 (ui cs2 q ((psz (S.1 i).2 q e) + (cs2 e))) := by rw [ehh92, ueh_n (by decide)]; exact fc89
              have fc96 : hh92 97 = cI 65 (ui ct2 q ((ct2 e) + 1)) := by rw [ehh92, ueh_n (by decide)]; exact fc90
              have fc97 : hh92 98 = cI 65 (ui nx2 q e) := by rw [ehh92]; exact ueh_s
              refine g_iinc (q := 157) (al2 := [some (.ref (90)), some (.int (iI (i))), some (.int (iI ((S.1 i).1))), some (.int (iI (q))), some (.int (iI (e + 1))), some (.int (iI ((psz (S.1 i).2 q e) + (cs2 e))))]) rfl (by decide) rfl rfl dX8_lay_154 rfl ?_
              refine g_goto (q := 59) dX8_lay_157 rfl ?_
              refine g_drop (al2 := [some (.ref (90)), some (.int (iI (i))), some (.int (iI ((S.1 i).1))), some (.int (iI (q))), some (.int (iI (e + 1))), none]) 5 rfl ?_
              have up : mE (S.1 i).2 (wt (S.1 i).1 (S.1 i).2) q (e - q).toNat = ((psz (S.1 i).2 q e + cs2 e) * 128 + (ct2 e + 1), e) := by
                rw [ms, if_pos (by have := cq2.2.1; omega), gw]
              exact ihi (e + 1, _, _, _, hh92) ⟨by omega, by omega, fc94, fc95, fc96, fc97, fun t a b => by
                  unfold ui
                  rw [if_neg (by omega), if_neg (by omega)]
                  exact dp4 t a b, fun t a b => by
                  unfold ui
                  rw [if_neg (by omega)]
                  exact nx4 t a b, Or.inr ⟨by omega, by
                  rw [show (e + 1 - 1 - q).toNat = (e - q).toNat by omega, up]
                  unfold ui
                  rw [if_pos rfl, if_pos rfl], by
                  rw [show (e + 1 - 1 - q).toNat = (e - q).toNat by omega, up]
                  unfold ui
                  rw [if_pos rfl], by unfold ui; rw [if_pos rfl]; omega, by unfold ui; rw [if_pos rfl]; omega, by unfold ui; rw [if_pos rfl]; omega, by unfold ui; rw [if_pos rfl]; omega⟩, fun j x y z u => by rw [ehh92, ueh_n u, ehh86, ueh_n z, ehh80, ueh_n y]; exact fr4 j x y z u⟩ (by show ((S.1 i).1 + 1 - (e + 1)).toNat < ((S.1 i).1 + 1 - e).toNat; omega)
  · exact g_vreturn (fun z => NN_f z) (Nat.le_of_ble_eq_true rfl) (Nat.le_of_ble_eq_true rfl) dX8_lay_9 rfl (vP_in ⟨hM, ⟨hD, bg, mn, m3, m4, (y2 (by omega)).1, (y2 (by omega)).2⟩, fun _ _ => rfl⟩)
