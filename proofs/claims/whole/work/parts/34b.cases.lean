/-! ===== the law: a case each ===== -/
set_option maxRecDepth 4000 in
theorem lc_append (l : Launch) (L : Nat) (xs : Nat → Int32) (u : UInt32) (post : Post) (t : Nat) (h : EHp) (S : ASt) (sv : List ASt) (hL : L ≤ 2560) (ht : 5 * t + 5 ≤ L) (hW : LWo h S sv) (next : ∀ (S' : ASt) (sv' : List ASt) (h' : EHp), LWo h' S' sv' → G l (scX L xs) mL_law 14 601024 7293034 post (103 + t + 1) (11921 + 6 * t + 6) 1530 [some (.float (u)), some (.ref (0)), some (.ref (90)), some (.ref (101)), some (.ref (102)), some (.int (iI (5 * (t : Int)))), none, none, none] [] NN h') : G l (scX L xs) mL_law 14 601024 7293034 (post) (103 + t) (11921 + 6 * t) 156 [some (.float (u)), some (.ref (0)), some (.ref (90)), some (.ref (101)), some (.ref (102)), some (.int (iI (5 * (t : Int)))), none, none, none] [] NN h := by
  obtain ⟨hC, ⟨th, hM⟩, ⟨f0, ho⟩, ⟨f9, hd9⟩⟩ := id hW
  obtain ⟨z1, e1, r1⟩ := iI_any (xs (5 * (t : Int) + 1).toNat)
  obtain ⟨z2, e2, r2⟩ := iI_any (xs (5 * (t : Int) + 2).toNat)
  obtain ⟨kd, v0, S', sv', kr, j1, j2⟩ := j_append l h S sv z1 z2 r1 r2 hC f0 ho
  refine g_aload_n (q := 157) rfl rfl dL_law_156 rfl ?_
  refine g_aload_s (q := 158) rfl rfl dL_law_157 rfl ?_
  refine g_iload (q := 160) rfl dL_law_158 rfl ?_
  refine g_iconst (q := 161) dL_law_160 rfl ?_
  refine g_iadd (q := 162) dL_law_161 rfl ?_
  refine g_sld (q := 163) (by omega) (by omega) (by omega) dL_law_162 rfl ?_
  rw [e1]
  refine g_aload_s (q := 164) rfl rfl dL_law_163 rfl ?_
  refine g_iload (q := 166) rfl dL_law_164 rfl ?_
  refine g_iconst (q := 167) dL_law_166 rfl ?_
  refine g_iadd (q := 168) dL_law_167 rfl ?_
  refine g_sld (q := 169) (by omega) (by omega) (by omega) dL_law_168 rfl ?_
  rw [e2]
  refine g_aload_n (q := 170) rfl rfl dL_law_169 rfl ?_
  refine g_Sww (q := 173) (d' := 11) (av := [.ref (0), .int (iI (z1)), .int (iI (z2)), .ref (101)]) (st := []) ksL_85 (j1) rfl (Nat.le_of_ble_eq_true rfl) ⟨(Nat.le_of_ble_eq_true rfl), (Nat.le_of_ble_eq_true rfl)⟩ ⟨by omega, by omega⟩ rfl rfl dL_law_170 rfl (fun v h1 hp => ?_)
  obtain ⟨rfl, c1, ⟨f1, o1, of1⟩, fr1⟩ := hp
  have hM1 : MRep h1 th S sv := hM.cells (fun j a b => fr1 j a (by omega))
  obtain ⟨w9, pst9, bg9, mn9, lz9, A9, -⟩ := id hM1
  refine g_istore (q := 175) (al2 := [some (.float (u)), some (.ref (0)), some (.ref (90)), some (.ref (101)), some (.ref (102)), some (.int (iI (5 * (t : Int)))), some (.int (iI (kd))), none, none]) (by decide) rfl rfl dL_law_173 rfl ?_
  refine g_aload_n (q := 176) rfl rfl dL_law_175 rfl ?_
  refine g_aload_s (q := 177) rfl rfl dL_law_176 rfl ?_
  refine g_iload (q := 179) rfl dL_law_177 rfl ?_
  refine g_iconst (q := 180) dL_law_179 rfl ?_
  refine g_iadd (q := 181) dL_law_180 rfl ?_
  refine g_sld (q := 182) (by omega) (by omega) (by omega) dL_law_181 rfl ?_
  rw [e1]
  refine g_aload_s (q := 183) rfl rfl dL_law_182 rfl ?_
  refine g_iload (q := 185) rfl dL_law_183 rfl ?_
  refine g_iconst (q := 186) dL_law_185 rfl ?_
  refine g_iadd (q := 187) dL_law_186 rfl ?_
  refine g_sld (q := 188) (by omega) (by omega) (by omega) dL_law_187 rfl ?_
  rw [e2]
  refine g_Vw (q := 191) (d' := 2) (i := 90) (av := [.int (iI (z1)), .int (iI (z2))]) (st := []) kvL_90 (j2 h1 th hM1) (by decide) A9 rfl (Nat.le_of_ble_eq_true rfl) ⟨(Nat.le_of_ble_eq_true rfl), (Nat.le_of_ble_eq_true rfl)⟩ ⟨by omega, by omega⟩ rfl rfl dL_law_188 rfl (fun v h2 hp => ?_)
  obtain ⟨⟨z, rfl, ez⟩, m2, fr2⟩ := hp
  obtain ⟨w8, pst8, bg8, mn8, lz8, A8, -⟩ := id m2
  have o2 : h2 101 = _ := (fr2 101 (by omega)).trans o1
  refine g_istore (q := 193) (al2 := [some (.float (u)), some (.ref (0)), some (.ref (90)), some (.ref (101)), some (.ref (102)), some (.int (iI (5 * (t : Int)))), some (.int (iI (kd))), some (.int (iI (z))), none]) (by decide) rfl rfl dL_law_191 rfl ?_
  refine g_aload_n (q := 194) rfl rfl dL_law_193 rfl ?_
  refine g_Vr (q := 197) (d' := 0) (i := 90) (av := []) (st := []) (v := .int (iI (kd))) kvL_91 (t_X8_thrown l h2 kd S' sv' m2) (by decide) A8 rfl (Nat.le_of_ble_eq_true rfl) ⟨(Nat.le_of_ble_eq_true rfl), (Nat.le_of_ble_eq_true rfl)⟩ ⟨by omega, by omega⟩ rfl rfl dL_law_194 rfl ?_
  refine g_iload (q := 199) rfl dL_law_197 rfl ?_
  refine g_icmp_eq (t := 204) (q := 202) ⟨by omega, by omega⟩ ⟨by omega, by omega⟩ dL_law_199 rfl rfl (fun c199 => ?_) (fun c199 => ?_)
  · refine g_iload (q := 206) rfl dL_law_204 rfl ?_
    refine g_if_ne (t := 221) (q := 209) ⟨by omega, by omega⟩ dL_law_206 rfl rfl (fun c206 => ?_) (fun c206 => ?_)
    · refine g_goto (q := 1530) dL_law_221 rfl ?_
      refine g_drop (al2 := [some (.float (u)), some (.ref (0)), some (.ref (90)), some (.ref (101)), some (.ref (102)), some (.int (iI (5 * (t : Int)))), none, some (.int (iI (z))), none]) 6 rfl ?_
      refine g_drop (al2 := [some (.float (u)), some (.ref (0)), some (.ref (90)), some (.ref (101)), some (.ref (102)), some (.int (iI (5 * (t : Int)))), none, none, none]) 7 rfl ?_
      exact next S' sv' h2 ⟨c1.cells (fun j hj => fr2 j (Or.inl hj)), ⟨kd, m2⟩, ⟨f1, o2⟩, ⟨f9, (fr2 102 (by omega)).trans ((fr1 102 (by decide) (by decide)).trans hd9)⟩⟩
    · have hk : kd = 0 := by omega
      have ev : f1 ((0 : Int)).toNat = (iI z).toInt64 := by rw [ez hk]; exact of1 hk
      refine g_aload_n (q := 210) rfl rfl dL_law_209 rfl ?_
      refine g_iconst (q := 211) dL_law_210 rfl ?_
      refine g_laload (q := 212) (by decide) o2 (by decide) (by decide) (by decide) dL_law_211 rfl ?_
      refine g_iload (q := 214) rfl dL_law_212 rfl ?_
      refine g_i2l (q := 215) dL_law_214 rfl ?_
      refine g_lcmp (q := 216) dL_law_215 rfl ?_
      refine g_ifr_eq (t := 221) (q := 219) dL_law_216 rfl rfl (fun cl => ?_) (fun cl => ?_)
      · refine g_goto (q := 1530) dL_law_221 rfl ?_
        refine g_drop (al2 := [some (.float (u)), some (.ref (0)), some (.ref (90)), some (.ref (101)), some (.ref (102)), some (.int (iI (5 * (t : Int)))), none, some (.int (iI (z))), none]) 6 rfl ?_
        refine g_drop (al2 := [some (.float (u)), some (.ref (0)), some (.ref (90)), some (.ref (101)), some (.ref (102)), some (.int (iI (5 * (t : Int)))), none, none, none]) 7 rfl ?_
        exact next S' sv' h2 ⟨c1.cells (fun j hj => fr2 j (Or.inl hj)), ⟨kd, m2⟩, ⟨f1, o2⟩, ⟨f9, (fr2 102 (by omega)).trans ((fr1 102 (by decide) (by decide)).trans hd9)⟩⟩
      · exact absurd (by rw [ev]; exact lg_self _) cl
  · omega
set_option maxRecDepth 4000 in
theorem lc_appendRange (l : Launch) (L : Nat) (xs : Nat → Int32) (u : UInt32) (post : Post) (t : Nat) (h : EHp) (S : ASt) (sv : List ASt) (hL : L ≤ 2560) (ht : 5 * t + 5 ≤ L) (hW : LWo h S sv) (next : ∀ (S' : ASt) (sv' : List ASt) (h' : EHp), LWo h' S' sv' → G l (scX L xs) mL_law 14 601024 7293034 post (103 + t + 1) (11921 + 6 * t + 6) 1530 [some (.float (u)), some (.ref (0)), some (.ref (90)), some (.ref (101)), some (.ref (102)), some (.int (iI (5 * (t : Int)))), none, none, none] [] NN h') : G l (scX L xs) mL_law 14 601024 7293034 (post) (103 + t) (11921 + 6 * t) 224 [some (.float (u)), some (.ref (0)), some (.ref (90)), some (.ref (101)), some (.ref (102)), some (.int (iI (5 * (t : Int)))), none, none, none] [] NN h := by
  obtain ⟨hC, ⟨th, hM⟩, ⟨f0, ho⟩, ⟨f9, hd9⟩⟩ := id hW
  obtain ⟨z1, e1, r1⟩ := iI_any (xs (5 * (t : Int) + 1).toNat)
  obtain ⟨z2, e2, r2⟩ := iI_any (xs (5 * (t : Int) + 2).toNat)
  obtain ⟨z3, e3, r3⟩ := iI_any (xs (5 * (t : Int) + 3).toNat)
  obtain ⟨z4, e4, r4⟩ := iI_any (xs (5 * (t : Int) + 4).toNat)
  obtain ⟨kd, v0, S', sv', kr, j1, j2⟩ := j_appendRange l h S sv z1 z2 z3 z4 r1 r2 r3 r4 hC f0 ho
  refine g_aload_n (q := 225) rfl rfl dL_law_224 rfl ?_
  refine g_aload_s (q := 226) rfl rfl dL_law_225 rfl ?_
  refine g_iload (q := 228) rfl dL_law_226 rfl ?_
  refine g_iconst (q := 229) dL_law_228 rfl ?_
  refine g_iadd (q := 230) dL_law_229 rfl ?_
  refine g_sld (q := 231) (by omega) (by omega) (by omega) dL_law_230 rfl ?_
  rw [e1]
  refine g_aload_s (q := 232) rfl rfl dL_law_231 rfl ?_
  refine g_iload (q := 234) rfl dL_law_232 rfl ?_
  refine g_iconst (q := 235) dL_law_234 rfl ?_
  refine g_iadd (q := 236) dL_law_235 rfl ?_
  refine g_sld (q := 237) (by omega) (by omega) (by omega) dL_law_236 rfl ?_
  rw [e2]
  refine g_aload_s (q := 238) rfl rfl dL_law_237 rfl ?_
  refine g_iload (q := 240) rfl dL_law_238 rfl ?_
  refine g_iconst (q := 241) dL_law_240 rfl ?_
  refine g_iadd (q := 242) dL_law_241 rfl ?_
  refine g_sld (q := 243) (by omega) (by omega) (by omega) dL_law_242 rfl ?_
  rw [e3]
  refine g_aload_s (q := 244) rfl rfl dL_law_243 rfl ?_
  refine g_iload (q := 246) rfl dL_law_244 rfl ?_
  refine g_iconst (q := 247) dL_law_246 rfl ?_
  refine g_iadd (q := 248) dL_law_247 rfl ?_
  refine g_sld (q := 249) (by omega) (by omega) (by omega) dL_law_248 rfl ?_
  rw [e4]
  refine g_aload_n (q := 250) rfl rfl dL_law_249 rfl ?_
  refine g_Sww (q := 253) (d' := 10) (av := [.ref (0), .int (iI (z1)), .int (iI (z2)), .int (iI (z3)), .int (iI (z4)), .ref (101)]) (st := []) ksL_94 (j1) rfl (Nat.le_of_ble_eq_true rfl) ⟨(Nat.le_of_ble_eq_true rfl), (Nat.le_of_ble_eq_true rfl)⟩ ⟨by omega, by omega⟩ rfl rfl dL_law_250 rfl (fun v h1 hp => ?_)
  obtain ⟨rfl, c1, ⟨f1, o1, of1⟩, fr1⟩ := hp
  have hM1 : MRep h1 th S sv := hM.cells (fun j a b => fr1 j a (by omega))
  obtain ⟨w9, pst9, bg9, mn9, lz9, A9, -⟩ := id hM1
  refine g_istore (q := 255) (al2 := [some (.float (u)), some (.ref (0)), some (.ref (90)), some (.ref (101)), some (.ref (102)), some (.int (iI (5 * (t : Int)))), some (.int (iI (kd))), none, none]) (by decide) rfl rfl dL_law_253 rfl ?_
  refine g_aload_n (q := 256) rfl rfl dL_law_255 rfl ?_
  refine g_aload_s (q := 257) rfl rfl dL_law_256 rfl ?_
  refine g_iload (q := 259) rfl dL_law_257 rfl ?_
  refine g_iconst (q := 260) dL_law_259 rfl ?_
  refine g_iadd (q := 261) dL_law_260 rfl ?_
  refine g_sld (q := 262) (by omega) (by omega) (by omega) dL_law_261 rfl ?_
  rw [e1]
  refine g_aload_s (q := 263) rfl rfl dL_law_262 rfl ?_
  refine g_iload (q := 265) rfl dL_law_263 rfl ?_
  refine g_iconst (q := 266) dL_law_265 rfl ?_
  refine g_iadd (q := 267) dL_law_266 rfl ?_
  refine g_sld (q := 268) (by omega) (by omega) (by omega) dL_law_267 rfl ?_
  rw [e2]
  refine g_aload_s (q := 269) rfl rfl dL_law_268 rfl ?_
  refine g_iload (q := 271) rfl dL_law_269 rfl ?_
  refine g_iconst (q := 272) dL_law_271 rfl ?_
  refine g_iadd (q := 273) dL_law_272 rfl ?_
  refine g_sld (q := 274) (by omega) (by omega) (by omega) dL_law_273 rfl ?_
  rw [e3]
  refine g_aload_s (q := 275) rfl rfl dL_law_274 rfl ?_
  refine g_iload (q := 277) rfl dL_law_275 rfl ?_
  refine g_iconst (q := 278) dL_law_277 rfl ?_
  refine g_iadd (q := 279) dL_law_278 rfl ?_
  refine g_sld (q := 280) (by omega) (by omega) (by omega) dL_law_279 rfl ?_
  rw [e4]
  refine g_Vw (q := 283) (d' := 2) (i := 90) (av := [.int (iI (z1)), .int (iI (z2)), .int (iI (z3)), .int (iI (z4))]) (st := []) kvL_97 (j2 h1 th hM1) (by decide) A9 rfl (Nat.le_of_ble_eq_true rfl) ⟨(Nat.le_of_ble_eq_true rfl), (Nat.le_of_ble_eq_true rfl)⟩ ⟨by omega, by omega⟩ rfl rfl dL_law_280 rfl (fun v h2 hp => ?_)
  obtain ⟨⟨z, rfl, ez⟩, m2, fr2⟩ := hp
  obtain ⟨w8, pst8, bg8, mn8, lz8, A8, -⟩ := id m2
  have o2 : h2 101 = _ := (fr2 101 (by omega)).trans o1
  refine g_istore (q := 285) (al2 := [some (.float (u)), some (.ref (0)), some (.ref (90)), some (.ref (101)), some (.ref (102)), some (.int (iI (5 * (t : Int)))), some (.int (iI (kd))), some (.int (iI (z))), none]) (by decide) rfl rfl dL_law_283 rfl ?_
  refine g_aload_n (q := 286) rfl rfl dL_law_285 rfl ?_
  refine g_Vr (q := 289) (d' := 0) (i := 90) (av := []) (st := []) (v := .int (iI (kd))) kvL_91 (t_X8_thrown l h2 kd S' sv' m2) (by decide) A8 rfl (Nat.le_of_ble_eq_true rfl) ⟨(Nat.le_of_ble_eq_true rfl), (Nat.le_of_ble_eq_true rfl)⟩ ⟨by omega, by omega⟩ rfl rfl dL_law_286 rfl ?_
  refine g_iload (q := 291) rfl dL_law_289 rfl ?_
  refine g_icmp_eq (t := 296) (q := 294) ⟨by omega, by omega⟩ ⟨by omega, by omega⟩ dL_law_291 rfl rfl (fun c291 => ?_) (fun c291 => ?_)
  · refine g_iload (q := 298) rfl dL_law_296 rfl ?_
    refine g_if_ne (t := 313) (q := 301) ⟨by omega, by omega⟩ dL_law_298 rfl rfl (fun c298 => ?_) (fun c298 => ?_)
    · refine g_goto (q := 1530) dL_law_313 rfl ?_
      refine g_drop (al2 := [some (.float (u)), some (.ref (0)), some (.ref (90)), some (.ref (101)), some (.ref (102)), some (.int (iI (5 * (t : Int)))), none, some (.int (iI (z))), none]) 6 rfl ?_
      refine g_drop (al2 := [some (.float (u)), some (.ref (0)), some (.ref (90)), some (.ref (101)), some (.ref (102)), some (.int (iI (5 * (t : Int)))), none, none, none]) 7 rfl ?_
      exact next S' sv' h2 ⟨c1.cells (fun j hj => fr2 j (Or.inl hj)), ⟨kd, m2⟩, ⟨f1, o2⟩, ⟨f9, (fr2 102 (by omega)).trans ((fr1 102 (by decide) (by decide)).trans hd9)⟩⟩
    · have hk : kd = 0 := by omega
      have ev : f1 ((0 : Int)).toNat = (iI z).toInt64 := by rw [ez hk]; exact of1 hk
      refine g_aload_n (q := 302) rfl rfl dL_law_301 rfl ?_
      refine g_iconst (q := 303) dL_law_302 rfl ?_
      refine g_laload (q := 304) (by decide) o2 (by decide) (by decide) (by decide) dL_law_303 rfl ?_
      refine g_iload (q := 306) rfl dL_law_304 rfl ?_
      refine g_i2l (q := 307) dL_law_306 rfl ?_
      refine g_lcmp (q := 308) dL_law_307 rfl ?_
      refine g_ifr_eq (t := 313) (q := 311) dL_law_308 rfl rfl (fun cl => ?_) (fun cl => ?_)
      · refine g_goto (q := 1530) dL_law_313 rfl ?_
        refine g_drop (al2 := [some (.float (u)), some (.ref (0)), some (.ref (90)), some (.ref (101)), some (.ref (102)), some (.int (iI (5 * (t : Int)))), none, some (.int (iI (z))), none]) 6 rfl ?_
        refine g_drop (al2 := [some (.float (u)), some (.ref (0)), some (.ref (90)), some (.ref (101)), some (.ref (102)), some (.int (iI (5 * (t : Int)))), none, none, none]) 7 rfl ?_
        exact next S' sv' h2 ⟨c1.cells (fun j hj => fr2 j (Or.inl hj)), ⟨kd, m2⟩, ⟨f1, o2⟩, ⟨f9, (fr2 102 (by omega)).trans ((fr1 102 (by decide) (by decide)).trans hd9)⟩⟩
      · exact absurd (by rw [ev]; exact lg_self _) cl
  · omega
set_option maxRecDepth 4000 in
theorem lc_clear (l : Launch) (L : Nat) (xs : Nat → Int32) (u : UInt32) (post : Post) (t : Nat) (h : EHp) (S : ASt) (sv : List ASt) (hL : L ≤ 2560) (ht : 5 * t + 5 ≤ L) (hW : LWo h S sv) (next : ∀ (S' : ASt) (sv' : List ASt) (h' : EHp), LWo h' S' sv' → G l (scX L xs) mL_law 14 601024 7293034 post (103 + t + 1) (11921 + 6 * t + 6) 1530 [some (.float (u)), some (.ref (0)), some (.ref (90)), some (.ref (101)), some (.ref (102)), some (.int (iI (5 * (t : Int)))), none, none, none] [] NN h') : G l (scX L xs) mL_law 14 601024 7293034 (post) (103 + t) (11921 + 6 * t) 316 [some (.float (u)), some (.ref (0)), some (.ref (90)), some (.ref (101)), some (.ref (102)), some (.int (iI (5 * (t : Int)))), none, none, none] [] NN h := by
  obtain ⟨hC, ⟨th, hM⟩, ⟨f0, ho⟩, ⟨f9, hd9⟩⟩ := id hW
  obtain ⟨z1, e1, r1⟩ := iI_any (xs (5 * (t : Int) + 1).toNat)
  obtain ⟨kd, v0, S', sv', kr, j1, j2⟩ := j_clear l h S sv z1 r1 hC f0 ho
  refine g_aload_n (q := 317) rfl rfl dL_law_316 rfl ?_
  refine g_aload_s (q := 318) rfl rfl dL_law_317 rfl ?_
  refine g_iload (q := 320) rfl dL_law_318 rfl ?_
  refine g_iconst (q := 321) dL_law_320 rfl ?_
  refine g_iadd (q := 322) dL_law_321 rfl ?_
  refine g_sld (q := 323) (by omega) (by omega) (by omega) dL_law_322 rfl ?_
  rw [e1]
  refine g_aload_n (q := 324) rfl rfl dL_law_323 rfl ?_
  refine g_Sww (q := 327) (d' := 10) (av := [.ref (0), .int (iI (z1)), .ref (101)]) (st := []) ksL_98 (j1) rfl (Nat.le_of_ble_eq_true rfl) ⟨(Nat.le_of_ble_eq_true rfl), (Nat.le_of_ble_eq_true rfl)⟩ ⟨by omega, by omega⟩ rfl rfl dL_law_324 rfl (fun v h1 hp => ?_)
  obtain ⟨rfl, c1, ⟨f1, o1, of1⟩, fr1⟩ := hp
  have hM1 : MRep h1 th S sv := hM.cells (fun j a b => fr1 j a (by omega))
  obtain ⟨w9, pst9, bg9, mn9, lz9, A9, -⟩ := id hM1
  refine g_istore (q := 329) (al2 := [some (.float (u)), some (.ref (0)), some (.ref (90)), some (.ref (101)), some (.ref (102)), some (.int (iI (5 * (t : Int)))), some (.int (iI (kd))), none, none]) (by decide) rfl rfl dL_law_327 rfl ?_
  refine g_aload_n (q := 330) rfl rfl dL_law_329 rfl ?_
  refine g_aload_s (q := 331) rfl rfl dL_law_330 rfl ?_
  refine g_iload (q := 333) rfl dL_law_331 rfl ?_
  refine g_iconst (q := 334) dL_law_333 rfl ?_
  refine g_iadd (q := 335) dL_law_334 rfl ?_
  refine g_sld (q := 336) (by omega) (by omega) (by omega) dL_law_335 rfl ?_
  rw [e1]
  refine g_Vw (q := 339) (d' := 2) (i := 90) (av := [.int (iI (z1))]) (st := []) kvL_101 (j2 h1 th hM1) (by decide) A9 rfl (Nat.le_of_ble_eq_true rfl) ⟨(Nat.le_of_ble_eq_true rfl), (Nat.le_of_ble_eq_true rfl)⟩ ⟨by omega, by omega⟩ rfl rfl dL_law_336 rfl (fun v h2 hp => ?_)
  obtain ⟨⟨z, rfl, ez⟩, m2, fr2⟩ := hp
  obtain ⟨w8, pst8, bg8, mn8, lz8, A8, -⟩ := id m2
  have o2 : h2 101 = _ := (fr2 101 (by omega)).trans o1
  refine g_istore (q := 341) (al2 := [some (.float (u)), some (.ref (0)), some (.ref (90)), some (.ref (101)), some (.ref (102)), some (.int (iI (5 * (t : Int)))), some (.int (iI (kd))), some (.int (iI (z))), none]) (by decide) rfl rfl dL_law_339 rfl ?_
  refine g_aload_n (q := 342) rfl rfl dL_law_341 rfl ?_
  refine g_Vr (q := 345) (d' := 0) (i := 90) (av := []) (st := []) (v := .int (iI (kd))) kvL_91 (t_X8_thrown l h2 kd S' sv' m2) (by decide) A8 rfl (Nat.le_of_ble_eq_true rfl) ⟨(Nat.le_of_ble_eq_true rfl), (Nat.le_of_ble_eq_true rfl)⟩ ⟨by omega, by omega⟩ rfl rfl dL_law_342 rfl ?_
  refine g_iload (q := 347) rfl dL_law_345 rfl ?_
  refine g_icmp_eq (t := 352) (q := 350) ⟨by omega, by omega⟩ ⟨by omega, by omega⟩ dL_law_347 rfl rfl (fun c347 => ?_) (fun c347 => ?_)
  · refine g_iload (q := 354) rfl dL_law_352 rfl ?_
    refine g_if_ne (t := 369) (q := 357) ⟨by omega, by omega⟩ dL_law_354 rfl rfl (fun c354 => ?_) (fun c354 => ?_)
    · refine g_goto (q := 1530) dL_law_369 rfl ?_
      refine g_drop (al2 := [some (.float (u)), some (.ref (0)), some (.ref (90)), some (.ref (101)), some (.ref (102)), some (.int (iI (5 * (t : Int)))), none, some (.int (iI (z))), none]) 6 rfl ?_
      refine g_drop (al2 := [some (.float (u)), some (.ref (0)), some (.ref (90)), some (.ref (101)), some (.ref (102)), some (.int (iI (5 * (t : Int)))), none, none, none]) 7 rfl ?_
      exact next S' sv' h2 ⟨c1.cells (fun j hj => fr2 j (Or.inl hj)), ⟨kd, m2⟩, ⟨f1, o2⟩, ⟨f9, (fr2 102 (by omega)).trans ((fr1 102 (by decide) (by decide)).trans hd9)⟩⟩
    · have hk : kd = 0 := by omega
      have ev : f1 ((0 : Int)).toNat = (iI z).toInt64 := by rw [ez hk]; exact of1 hk
      refine g_aload_n (q := 358) rfl rfl dL_law_357 rfl ?_
      refine g_iconst (q := 359) dL_law_358 rfl ?_
      refine g_laload (q := 360) (by decide) o2 (by decide) (by decide) (by decide) dL_law_359 rfl ?_
      refine g_iload (q := 362) rfl dL_law_360 rfl ?_
      refine g_i2l (q := 363) dL_law_362 rfl ?_
      refine g_lcmp (q := 364) dL_law_363 rfl ?_
      refine g_ifr_eq (t := 369) (q := 367) dL_law_364 rfl rfl (fun cl => ?_) (fun cl => ?_)
      · refine g_goto (q := 1530) dL_law_369 rfl ?_
        refine g_drop (al2 := [some (.float (u)), some (.ref (0)), some (.ref (90)), some (.ref (101)), some (.ref (102)), some (.int (iI (5 * (t : Int)))), none, some (.int (iI (z))), none]) 6 rfl ?_
        refine g_drop (al2 := [some (.float (u)), some (.ref (0)), some (.ref (90)), some (.ref (101)), some (.ref (102)), some (.int (iI (5 * (t : Int)))), none, none, none]) 7 rfl ?_
        exact next S' sv' h2 ⟨c1.cells (fun j hj => fr2 j (Or.inl hj)), ⟨kd, m2⟩, ⟨f1, o2⟩, ⟨f9, (fr2 102 (by omega)).trans ((fr1 102 (by decide) (by decide)).trans hd9)⟩⟩
      · exact absurd (by rw [ev]; exact lg_self _) cl
  · omega
set_option maxRecDepth 4000 in
theorem lc_size (l : Launch) (L : Nat) (xs : Nat → Int32) (u : UInt32) (post : Post) (t : Nat) (h : EHp) (S : ASt) (sv : List ASt) (hL : L ≤ 2560) (ht : 5 * t + 5 ≤ L) (hW : LWo h S sv) (next : ∀ (S' : ASt) (sv' : List ASt) (h' : EHp), LWo h' S' sv' → G l (scX L xs) mL_law 14 601024 7293034 post (103 + t + 1) (11921 + 6 * t + 6) 1530 [some (.float (u)), some (.ref (0)), some (.ref (90)), some (.ref (101)), some (.ref (102)), some (.int (iI (5 * (t : Int)))), none, none, none] [] NN h') : G l (scX L xs) mL_law 14 601024 7293034 (post) (103 + t) (11921 + 6 * t) 372 [some (.float (u)), some (.ref (0)), some (.ref (90)), some (.ref (101)), some (.ref (102)), some (.int (iI (5 * (t : Int)))), none, none, none] [] NN h := by
  obtain ⟨hC, ⟨th, hM⟩, ⟨f0, ho⟩, ⟨f9, hd9⟩⟩ := id hW
  obtain ⟨z1, e1, r1⟩ := iI_any (xs (5 * (t : Int) + 1).toNat)
  obtain ⟨kd, v0, S', sv', kr, j1, j2⟩ := j_size l h S sv z1 r1 hC f0 ho
  refine g_aload_n (q := 373) rfl rfl dL_law_372 rfl ?_
  refine g_aload_s (q := 374) rfl rfl dL_law_373 rfl ?_
  refine g_iload (q := 376) rfl dL_law_374 rfl ?_
  refine g_iconst (q := 377) dL_law_376 rfl ?_
  refine g_iadd (q := 378) dL_law_377 rfl ?_
  refine g_sld (q := 379) (by omega) (by omega) (by omega) dL_law_378 rfl ?_
  rw [e1]
  refine g_aload_n (q := 380) rfl rfl dL_law_379 rfl ?_
  refine g_Sww (q := 383) (d' := 10) (av := [.ref (0), .int (iI (z1)), .ref (101)]) (st := []) ksL_102 (j1) rfl (Nat.le_of_ble_eq_true rfl) ⟨(Nat.le_of_ble_eq_true rfl), (Nat.le_of_ble_eq_true rfl)⟩ ⟨by omega, by omega⟩ rfl rfl dL_law_380 rfl (fun v h1 hp => ?_)
  obtain ⟨rfl, c1, ⟨f1, o1, of1⟩, fr1⟩ := hp
  have hM1 : MRep h1 th S sv := hM.cells (fun j a b => fr1 j a (by omega))
  obtain ⟨w9, pst9, bg9, mn9, lz9, A9, -⟩ := id hM1
  refine g_istore (q := 385) (al2 := [some (.float (u)), some (.ref (0)), some (.ref (90)), some (.ref (101)), some (.ref (102)), some (.int (iI (5 * (t : Int)))), some (.int (iI (kd))), none, none]) (by decide) rfl rfl dL_law_383 rfl ?_
  refine g_aload_n (q := 386) rfl rfl dL_law_385 rfl ?_
  refine g_aload_s (q := 387) rfl rfl dL_law_386 rfl ?_
  refine g_iload (q := 389) rfl dL_law_387 rfl ?_
  refine g_iconst (q := 390) dL_law_389 rfl ?_
  refine g_iadd (q := 391) dL_law_390 rfl ?_
  refine g_sld (q := 392) (by omega) (by omega) (by omega) dL_law_391 rfl ?_
  rw [e1]
  refine g_Vw (q := 395) (d' := 2) (i := 90) (av := [.int (iI (z1))]) (st := []) kvL_104 (j2 h1 th hM1) (by decide) A9 rfl (Nat.le_of_ble_eq_true rfl) ⟨(Nat.le_of_ble_eq_true rfl), (Nat.le_of_ble_eq_true rfl)⟩ ⟨by omega, by omega⟩ rfl rfl dL_law_392 rfl (fun v h2 hp => ?_)
  obtain ⟨⟨z, rfl, ez⟩, m2, fr2⟩ := hp
  obtain ⟨w8, pst8, bg8, mn8, lz8, A8, -⟩ := id m2
  have o2 : h2 101 = _ := (fr2 101 (by omega)).trans o1
  refine g_istore (q := 397) (al2 := [some (.float (u)), some (.ref (0)), some (.ref (90)), some (.ref (101)), some (.ref (102)), some (.int (iI (5 * (t : Int)))), some (.int (iI (kd))), some (.int (iI (z))), none]) (by decide) rfl rfl dL_law_395 rfl ?_
  refine g_aload_n (q := 398) rfl rfl dL_law_397 rfl ?_
  refine g_Vr (q := 401) (d' := 0) (i := 90) (av := []) (st := []) (v := .int (iI (kd))) kvL_91 (t_X8_thrown l h2 kd S' sv' m2) (by decide) A8 rfl (Nat.le_of_ble_eq_true rfl) ⟨(Nat.le_of_ble_eq_true rfl), (Nat.le_of_ble_eq_true rfl)⟩ ⟨by omega, by omega⟩ rfl rfl dL_law_398 rfl ?_
  refine g_iload (q := 403) rfl dL_law_401 rfl ?_
  refine g_icmp_eq (t := 408) (q := 406) ⟨by omega, by omega⟩ ⟨by omega, by omega⟩ dL_law_403 rfl rfl (fun c403 => ?_) (fun c403 => ?_)
  · refine g_iload (q := 410) rfl dL_law_408 rfl ?_
    refine g_if_ne (t := 425) (q := 413) ⟨by omega, by omega⟩ dL_law_410 rfl rfl (fun c410 => ?_) (fun c410 => ?_)
    · refine g_goto (q := 1530) dL_law_425 rfl ?_
      refine g_drop (al2 := [some (.float (u)), some (.ref (0)), some (.ref (90)), some (.ref (101)), some (.ref (102)), some (.int (iI (5 * (t : Int)))), none, some (.int (iI (z))), none]) 6 rfl ?_
      refine g_drop (al2 := [some (.float (u)), some (.ref (0)), some (.ref (90)), some (.ref (101)), some (.ref (102)), some (.int (iI (5 * (t : Int)))), none, none, none]) 7 rfl ?_
      exact next S' sv' h2 ⟨c1.cells (fun j hj => fr2 j (Or.inl hj)), ⟨kd, m2⟩, ⟨f1, o2⟩, ⟨f9, (fr2 102 (by omega)).trans ((fr1 102 (by decide) (by decide)).trans hd9)⟩⟩
    · have hk : kd = 0 := by omega
      have ev : f1 ((0 : Int)).toNat = (iI z).toInt64 := by rw [ez hk]; exact of1 hk
      refine g_aload_n (q := 414) rfl rfl dL_law_413 rfl ?_
      refine g_iconst (q := 415) dL_law_414 rfl ?_
      refine g_laload (q := 416) (by decide) o2 (by decide) (by decide) (by decide) dL_law_415 rfl ?_
      refine g_iload (q := 418) rfl dL_law_416 rfl ?_
      refine g_i2l (q := 419) dL_law_418 rfl ?_
      refine g_lcmp (q := 420) dL_law_419 rfl ?_
      refine g_ifr_eq (t := 425) (q := 423) dL_law_420 rfl rfl (fun cl => ?_) (fun cl => ?_)
      · refine g_goto (q := 1530) dL_law_425 rfl ?_
        refine g_drop (al2 := [some (.float (u)), some (.ref (0)), some (.ref (90)), some (.ref (101)), some (.ref (102)), some (.int (iI (5 * (t : Int)))), none, some (.int (iI (z))), none]) 6 rfl ?_
        refine g_drop (al2 := [some (.float (u)), some (.ref (0)), some (.ref (90)), some (.ref (101)), some (.ref (102)), some (.int (iI (5 * (t : Int)))), none, none, none]) 7 rfl ?_
        exact next S' sv' h2 ⟨c1.cells (fun j hj => fr2 j (Or.inl hj)), ⟨kd, m2⟩, ⟨f1, o2⟩, ⟨f9, (fr2 102 (by omega)).trans ((fr1 102 (by decide) (by decide)).trans hd9)⟩⟩
      · exact absurd (by rw [ev]; exact lg_self _) cl
  · omega
set_option maxRecDepth 4000 in
theorem lc_document (l : Launch) (L : Nat) (xs : Nat → Int32) (u : UInt32) (post : Post) (t : Nat) (h : EHp) (S : ASt) (sv : List ASt) (hL : L ≤ 2560) (ht : 5 * t + 5 ≤ L) (hW : LWo h S sv) (next : ∀ (S' : ASt) (sv' : List ASt) (h' : EHp), LWo h' S' sv' → G l (scX L xs) mL_law 14 601024 7293034 post (103 + t + 1) (11921 + 6 * t + 6) 1530 [some (.float (u)), some (.ref (0)), some (.ref (90)), some (.ref (101)), some (.ref (102)), some (.int (iI (5 * (t : Int)))), none, none, none] [] NN h') : G l (scX L xs) mL_law 14 601024 7293034 (post) (103 + t) (11921 + 6 * t) 428 [some (.float (u)), some (.ref (0)), some (.ref (90)), some (.ref (101)), some (.ref (102)), some (.int (iI (5 * (t : Int)))), none, none, none] [] NN h := by
  obtain ⟨hC, ⟨th, hM⟩, ⟨f0, ho⟩, ⟨f9, hd9⟩⟩ := id hW
  obtain ⟨z1, e1, r1⟩ := iI_any (xs (5 * (t : Int) + 1).toNat)
  obtain ⟨z2, e2, r2⟩ := iI_any (xs (5 * (t : Int) + 2).toNat)
  obtain ⟨kd, v0, S', sv', kr, j1, j2⟩ := j_document l h S sv z1 z2 r1 r2 hC f0 ho
  refine g_aload_n (q := 429) rfl rfl dL_law_428 rfl ?_
  refine g_aload_s (q := 430) rfl rfl dL_law_429 rfl ?_
  refine g_iload (q := 432) rfl dL_law_430 rfl ?_
  refine g_iconst (q := 433) dL_law_432 rfl ?_
  refine g_iadd (q := 434) dL_law_433 rfl ?_
  refine g_sld (q := 435) (by omega) (by omega) (by omega) dL_law_434 rfl ?_
  rw [e1]
  refine g_aload_s (q := 436) rfl rfl dL_law_435 rfl ?_
  refine g_iload (q := 438) rfl dL_law_436 rfl ?_
  refine g_iconst (q := 439) dL_law_438 rfl ?_
  refine g_iadd (q := 440) dL_law_439 rfl ?_
  refine g_sld (q := 441) (by omega) (by omega) (by omega) dL_law_440 rfl ?_
  rw [e2]
  refine g_aload_n (q := 442) rfl rfl dL_law_441 rfl ?_
  refine g_Sww (q := 445) (d' := 10) (av := [.ref (0), .int (iI (z1)), .int (iI (z2)), .ref (101)]) (st := []) ksL_105 (j1) rfl (Nat.le_of_ble_eq_true rfl) ⟨(Nat.le_of_ble_eq_true rfl), (Nat.le_of_ble_eq_true rfl)⟩ ⟨by omega, by omega⟩ rfl rfl dL_law_442 rfl (fun v h1 hp => ?_)
  obtain ⟨rfl, c1, ⟨f1, o1, of1⟩, fr1⟩ := hp
  have hM1 : MRep h1 th S sv := hM.cells (fun j a b => fr1 j a (by omega))
  obtain ⟨w9, pst9, bg9, mn9, lz9, A9, -⟩ := id hM1
  refine g_istore (q := 447) (al2 := [some (.float (u)), some (.ref (0)), some (.ref (90)), some (.ref (101)), some (.ref (102)), some (.int (iI (5 * (t : Int)))), some (.int (iI (kd))), none, none]) (by decide) rfl rfl dL_law_445 rfl ?_
  refine g_aload_n (q := 448) rfl rfl dL_law_447 rfl ?_
  refine g_aload_s (q := 449) rfl rfl dL_law_448 rfl ?_
  refine g_iload (q := 451) rfl dL_law_449 rfl ?_
  refine g_iconst (q := 452) dL_law_451 rfl ?_
  refine g_iadd (q := 453) dL_law_452 rfl ?_
  refine g_sld (q := 454) (by omega) (by omega) (by omega) dL_law_453 rfl ?_
  rw [e1]
  refine g_aload_s (q := 455) rfl rfl dL_law_454 rfl ?_
  refine g_iload (q := 457) rfl dL_law_455 rfl ?_
  refine g_iconst (q := 458) dL_law_457 rfl ?_
  refine g_iadd (q := 459) dL_law_458 rfl ?_
  refine g_sld (q := 460) (by omega) (by omega) (by omega) dL_law_459 rfl ?_
  rw [e2]
  refine g_Vw (q := 463) (d' := 2) (i := 90) (av := [.int (iI (z1)), .int (iI (z2))]) (st := []) kvL_107 (j2 h1 th hM1) (by decide) A9 rfl (Nat.le_of_ble_eq_true rfl) ⟨(Nat.le_of_ble_eq_true rfl), (Nat.le_of_ble_eq_true rfl)⟩ ⟨by omega, by omega⟩ rfl rfl dL_law_460 rfl (fun v h2 hp => ?_)
  obtain ⟨⟨z, rfl, ez⟩, m2, fr2⟩ := hp
  obtain ⟨w8, pst8, bg8, mn8, lz8, A8, -⟩ := id m2
  have o2 : h2 101 = _ := (fr2 101 (by omega)).trans o1
  refine g_istore (q := 465) (al2 := [some (.float (u)), some (.ref (0)), some (.ref (90)), some (.ref (101)), some (.ref (102)), some (.int (iI (5 * (t : Int)))), some (.int (iI (kd))), some (.int (iI (z))), none]) (by decide) rfl rfl dL_law_463 rfl ?_
  refine g_aload_n (q := 466) rfl rfl dL_law_465 rfl ?_
  refine g_Vr (q := 469) (d' := 0) (i := 90) (av := []) (st := []) (v := .int (iI (kd))) kvL_91 (t_X8_thrown l h2 kd S' sv' m2) (by decide) A8 rfl (Nat.le_of_ble_eq_true rfl) ⟨(Nat.le_of_ble_eq_true rfl), (Nat.le_of_ble_eq_true rfl)⟩ ⟨by omega, by omega⟩ rfl rfl dL_law_466 rfl ?_
  refine g_iload (q := 471) rfl dL_law_469 rfl ?_
  refine g_icmp_eq (t := 476) (q := 474) ⟨by omega, by omega⟩ ⟨by omega, by omega⟩ dL_law_471 rfl rfl (fun c471 => ?_) (fun c471 => ?_)
  · refine g_iload (q := 478) rfl dL_law_476 rfl ?_
    refine g_if_ne (t := 493) (q := 481) ⟨by omega, by omega⟩ dL_law_478 rfl rfl (fun c478 => ?_) (fun c478 => ?_)
    · refine g_goto (q := 1530) dL_law_493 rfl ?_
      refine g_drop (al2 := [some (.float (u)), some (.ref (0)), some (.ref (90)), some (.ref (101)), some (.ref (102)), some (.int (iI (5 * (t : Int)))), none, some (.int (iI (z))), none]) 6 rfl ?_
      refine g_drop (al2 := [some (.float (u)), some (.ref (0)), some (.ref (90)), some (.ref (101)), some (.ref (102)), some (.int (iI (5 * (t : Int)))), none, none, none]) 7 rfl ?_
      exact next S' sv' h2 ⟨c1.cells (fun j hj => fr2 j (Or.inl hj)), ⟨kd, m2⟩, ⟨f1, o2⟩, ⟨f9, (fr2 102 (by omega)).trans ((fr1 102 (by decide) (by decide)).trans hd9)⟩⟩
    · have hk : kd = 0 := by omega
      have ev : f1 ((0 : Int)).toNat = (iI z).toInt64 := by rw [ez hk]; exact of1 hk
      refine g_aload_n (q := 482) rfl rfl dL_law_481 rfl ?_
      refine g_iconst (q := 483) dL_law_482 rfl ?_
      refine g_laload (q := 484) (by decide) o2 (by decide) (by decide) (by decide) dL_law_483 rfl ?_
      refine g_iload (q := 486) rfl dL_law_484 rfl ?_
      refine g_i2l (q := 487) dL_law_486 rfl ?_
      refine g_lcmp (q := 488) dL_law_487 rfl ?_
      refine g_ifr_eq (t := 493) (q := 491) dL_law_488 rfl rfl (fun cl => ?_) (fun cl => ?_)
      · refine g_goto (q := 1530) dL_law_493 rfl ?_
        refine g_drop (al2 := [some (.float (u)), some (.ref (0)), some (.ref (90)), some (.ref (101)), some (.ref (102)), some (.int (iI (5 * (t : Int)))), none, some (.int (iI (z))), none]) 6 rfl ?_
        refine g_drop (al2 := [some (.float (u)), some (.ref (0)), some (.ref (90)), some (.ref (101)), some (.ref (102)), some (.int (iI (5 * (t : Int)))), none, none, none]) 7 rfl ?_
        exact next S' sv' h2 ⟨c1.cells (fun j hj => fr2 j (Or.inl hj)), ⟨kd, m2⟩, ⟨f1, o2⟩, ⟨f9, (fr2 102 (by omega)).trans ((fr1 102 (by decide) (by decide)).trans hd9)⟩⟩
      · exact absurd (by rw [ev]; exact lg_self _) cl
  · omega
set_option maxRecDepth 4000 in
theorem lc_rank (l : Launch) (L : Nat) (xs : Nat → Int32) (u : UInt32) (post : Post) (t : Nat) (h : EHp) (S : ASt) (sv : List ASt) (hL : L ≤ 2560) (ht : 5 * t + 5 ≤ L) (hW : LWo h S sv) (next : ∀ (S' : ASt) (sv' : List ASt) (h' : EHp), LWo h' S' sv' → G l (scX L xs) mL_law 14 601024 7293034 post (103 + t + 1) (11921 + 6 * t + 6) 1530 [some (.float (u)), some (.ref (0)), some (.ref (90)), some (.ref (101)), some (.ref (102)), some (.int (iI (5 * (t : Int)))), none, none, none] [] NN h') : G l (scX L xs) mL_law 14 601024 7293034 (post) (103 + t) (11921 + 6 * t) 496 [some (.float (u)), some (.ref (0)), some (.ref (90)), some (.ref (101)), some (.ref (102)), some (.int (iI (5 * (t : Int)))), none, none, none] [] NN h := by
  obtain ⟨hC, ⟨th, hM⟩, ⟨f0, ho⟩, ⟨f9, hd9⟩⟩ := id hW
  obtain ⟨z1, e1, r1⟩ := iI_any (xs (5 * (t : Int) + 1).toNat)
  obtain ⟨z2, e2, r2⟩ := iI_any (xs (5 * (t : Int) + 2).toNat)
  obtain ⟨kd, v0, S', sv', kr, j1, j2⟩ := j_rank l h S sv z1 z2 r1 r2 hC f0 ho
  refine g_aload_n (q := 497) rfl rfl dL_law_496 rfl ?_
  refine g_aload_s (q := 498) rfl rfl dL_law_497 rfl ?_
  refine g_iload (q := 500) rfl dL_law_498 rfl ?_
  refine g_iconst (q := 501) dL_law_500 rfl ?_
  refine g_iadd (q := 502) dL_law_501 rfl ?_
  refine g_sld (q := 503) (by omega) (by omega) (by omega) dL_law_502 rfl ?_
  rw [e1]
  refine g_aload_s (q := 504) rfl rfl dL_law_503 rfl ?_
  refine g_iload (q := 506) rfl dL_law_504 rfl ?_
  refine g_iconst (q := 507) dL_law_506 rfl ?_
  refine g_iadd (q := 508) dL_law_507 rfl ?_
  refine g_sld (q := 509) (by omega) (by omega) (by omega) dL_law_508 rfl ?_
  rw [e2]
  refine g_aload_n (q := 510) rfl rfl dL_law_509 rfl ?_
  refine g_Sww (q := 513) (d' := 10) (av := [.ref (0), .int (iI (z1)), .int (iI (z2)), .ref (101)]) (st := []) ksL_108 (j1) rfl (Nat.le_of_ble_eq_true rfl) ⟨(Nat.le_of_ble_eq_true rfl), (Nat.le_of_ble_eq_true rfl)⟩ ⟨by omega, by omega⟩ rfl rfl dL_law_510 rfl (fun v h1 hp => ?_)
  obtain ⟨rfl, c1, ⟨f1, o1, of1⟩, fr1⟩ := hp
  have hM1 : MRep h1 th S sv := hM.cells (fun j a b => fr1 j a (by omega))
  obtain ⟨w9, pst9, bg9, mn9, lz9, A9, -⟩ := id hM1
  refine g_istore (q := 515) (al2 := [some (.float (u)), some (.ref (0)), some (.ref (90)), some (.ref (101)), some (.ref (102)), some (.int (iI (5 * (t : Int)))), some (.int (iI (kd))), none, none]) (by decide) rfl rfl dL_law_513 rfl ?_
  refine g_aload_n (q := 516) rfl rfl dL_law_515 rfl ?_
  refine g_aload_s (q := 517) rfl rfl dL_law_516 rfl ?_
  refine g_iload (q := 519) rfl dL_law_517 rfl ?_
  refine g_iconst (q := 520) dL_law_519 rfl ?_
  refine g_iadd (q := 521) dL_law_520 rfl ?_
  refine g_sld (q := 522) (by omega) (by omega) (by omega) dL_law_521 rfl ?_
  rw [e1]
  refine g_aload_s (q := 523) rfl rfl dL_law_522 rfl ?_
  refine g_iload (q := 525) rfl dL_law_523 rfl ?_
  refine g_iconst (q := 526) dL_law_525 rfl ?_
  refine g_iadd (q := 527) dL_law_526 rfl ?_
  refine g_sld (q := 528) (by omega) (by omega) (by omega) dL_law_527 rfl ?_
  rw [e2]
  refine g_Vw (q := 531) (d' := 2) (i := 90) (av := [.int (iI (z1)), .int (iI (z2))]) (st := []) kvL_110 (j2 h1 th hM1) (by decide) A9 rfl (Nat.le_of_ble_eq_true rfl) ⟨(Nat.le_of_ble_eq_true rfl), (Nat.le_of_ble_eq_true rfl)⟩ ⟨by omega, by omega⟩ rfl rfl dL_law_528 rfl (fun v h2 hp => ?_)
  obtain ⟨⟨z, rfl, ez⟩, m2, fr2⟩ := hp
  obtain ⟨w8, pst8, bg8, mn8, lz8, A8, -⟩ := id m2
  have o2 : h2 101 = _ := (fr2 101 (by omega)).trans o1
  refine g_istore (q := 533) (al2 := [some (.float (u)), some (.ref (0)), some (.ref (90)), some (.ref (101)), some (.ref (102)), some (.int (iI (5 * (t : Int)))), some (.int (iI (kd))), some (.int (iI (z))), none]) (by decide) rfl rfl dL_law_531 rfl ?_
  refine g_aload_n (q := 534) rfl rfl dL_law_533 rfl ?_
  refine g_Vr (q := 537) (d' := 0) (i := 90) (av := []) (st := []) (v := .int (iI (kd))) kvL_91 (t_X8_thrown l h2 kd S' sv' m2) (by decide) A8 rfl (Nat.le_of_ble_eq_true rfl) ⟨(Nat.le_of_ble_eq_true rfl), (Nat.le_of_ble_eq_true rfl)⟩ ⟨by omega, by omega⟩ rfl rfl dL_law_534 rfl ?_
  refine g_iload (q := 539) rfl dL_law_537 rfl ?_
  refine g_icmp_eq (t := 544) (q := 542) ⟨by omega, by omega⟩ ⟨by omega, by omega⟩ dL_law_539 rfl rfl (fun c539 => ?_) (fun c539 => ?_)
  · refine g_iload (q := 546) rfl dL_law_544 rfl ?_
    refine g_if_ne (t := 561) (q := 549) ⟨by omega, by omega⟩ dL_law_546 rfl rfl (fun c546 => ?_) (fun c546 => ?_)
    · refine g_goto (q := 1530) dL_law_561 rfl ?_
      refine g_drop (al2 := [some (.float (u)), some (.ref (0)), some (.ref (90)), some (.ref (101)), some (.ref (102)), some (.int (iI (5 * (t : Int)))), none, some (.int (iI (z))), none]) 6 rfl ?_
      refine g_drop (al2 := [some (.float (u)), some (.ref (0)), some (.ref (90)), some (.ref (101)), some (.ref (102)), some (.int (iI (5 * (t : Int)))), none, none, none]) 7 rfl ?_
      exact next S' sv' h2 ⟨c1.cells (fun j hj => fr2 j (Or.inl hj)), ⟨kd, m2⟩, ⟨f1, o2⟩, ⟨f9, (fr2 102 (by omega)).trans ((fr1 102 (by decide) (by decide)).trans hd9)⟩⟩
    · have hk : kd = 0 := by omega
      have ev : f1 ((0 : Int)).toNat = (iI z).toInt64 := by rw [ez hk]; exact of1 hk
      refine g_aload_n (q := 550) rfl rfl dL_law_549 rfl ?_
      refine g_iconst (q := 551) dL_law_550 rfl ?_
      refine g_laload (q := 552) (by decide) o2 (by decide) (by decide) (by decide) dL_law_551 rfl ?_
      refine g_iload (q := 554) rfl dL_law_552 rfl ?_
      refine g_i2l (q := 555) dL_law_554 rfl ?_
      refine g_lcmp (q := 556) dL_law_555 rfl ?_
      refine g_ifr_eq (t := 561) (q := 559) dL_law_556 rfl rfl (fun cl => ?_) (fun cl => ?_)
      · refine g_goto (q := 1530) dL_law_561 rfl ?_
        refine g_drop (al2 := [some (.float (u)), some (.ref (0)), some (.ref (90)), some (.ref (101)), some (.ref (102)), some (.int (iI (5 * (t : Int)))), none, some (.int (iI (z))), none]) 6 rfl ?_
        refine g_drop (al2 := [some (.float (u)), some (.ref (0)), some (.ref (90)), some (.ref (101)), some (.ref (102)), some (.int (iI (5 * (t : Int)))), none, none, none]) 7 rfl ?_
        exact next S' sv' h2 ⟨c1.cells (fun j hj => fr2 j (Or.inl hj)), ⟨kd, m2⟩, ⟨f1, o2⟩, ⟨f9, (fr2 102 (by omega)).trans ((fr1 102 (by decide) (by decide)).trans hd9)⟩⟩
      · exact absurd (by rw [ev]; exact lg_self _) cl
  · omega
set_option maxRecDepth 4000 in
theorem lc_partitions (l : Launch) (L : Nat) (xs : Nat → Int32) (u : UInt32) (post : Post) (t : Nat) (h : EHp) (S : ASt) (sv : List ASt) (hL : L ≤ 2560) (ht : 5 * t + 5 ≤ L) (hW : LWo h S sv) (next : ∀ (S' : ASt) (sv' : List ASt) (h' : EHp), LWo h' S' sv' → G l (scX L xs) mL_law 14 601024 7293034 post (103 + t + 1) (11921 + 6 * t + 6) 1530 [some (.float (u)), some (.ref (0)), some (.ref (90)), some (.ref (101)), some (.ref (102)), some (.int (iI (5 * (t : Int)))), none, none, none] [] NN h') : G l (scX L xs) mL_law 14 601024 7293034 (post) (103 + t) (11921 + 6 * t) 564 [some (.float (u)), some (.ref (0)), some (.ref (90)), some (.ref (101)), some (.ref (102)), some (.int (iI (5 * (t : Int)))), none, none, none] [] NN h := by
  obtain ⟨hC, ⟨th, hM⟩, ⟨f0, ho⟩, ⟨f9, hd9⟩⟩ := id hW
  obtain ⟨z1, e1, r1⟩ := iI_any (xs (5 * (t : Int) + 1).toNat)
  obtain ⟨kd, v0, S', sv', kr, j1, j2⟩ := j_partitions l h S sv z1 r1 hC f0 ho
  refine g_aload_n (q := 565) rfl rfl dL_law_564 rfl ?_
  refine g_aload_s (q := 566) rfl rfl dL_law_565 rfl ?_
  refine g_iload (q := 568) rfl dL_law_566 rfl ?_
  refine g_iconst (q := 569) dL_law_568 rfl ?_
  refine g_iadd (q := 570) dL_law_569 rfl ?_
  refine g_sld (q := 571) (by omega) (by omega) (by omega) dL_law_570 rfl ?_
  rw [e1]
  refine g_aload_n (q := 572) rfl rfl dL_law_571 rfl ?_
  refine g_Sww (q := 575) (d' := 10) (av := [.ref (0), .int (iI (z1)), .ref (101)]) (st := []) ksL_111 (j1) rfl (Nat.le_of_ble_eq_true rfl) ⟨(Nat.le_of_ble_eq_true rfl), (Nat.le_of_ble_eq_true rfl)⟩ ⟨by omega, by omega⟩ rfl rfl dL_law_572 rfl (fun v h1 hp => ?_)
  obtain ⟨rfl, c1, ⟨f1, o1, of1⟩, fr1⟩ := hp
  have hM1 : MRep h1 th S sv := hM.cells (fun j a b => fr1 j a (by omega))
  obtain ⟨w9, pst9, bg9, mn9, lz9, A9, -⟩ := id hM1
  refine g_istore (q := 577) (al2 := [some (.float (u)), some (.ref (0)), some (.ref (90)), some (.ref (101)), some (.ref (102)), some (.int (iI (5 * (t : Int)))), some (.int (iI (kd))), none, none]) (by decide) rfl rfl dL_law_575 rfl ?_
  refine g_aload_n (q := 578) rfl rfl dL_law_577 rfl ?_
  refine g_aload_s (q := 579) rfl rfl dL_law_578 rfl ?_
  refine g_iload (q := 581) rfl dL_law_579 rfl ?_
  refine g_iconst (q := 582) dL_law_581 rfl ?_
  refine g_iadd (q := 583) dL_law_582 rfl ?_
  refine g_sld (q := 584) (by omega) (by omega) (by omega) dL_law_583 rfl ?_
  rw [e1]
  refine g_Vw (q := 587) (d' := 5) (i := 90) (av := [.int (iI (z1))]) (st := []) kvL_113 (j2 h1 th hM1) (by decide) A9 rfl (Nat.le_of_ble_eq_true rfl) ⟨(Nat.le_of_ble_eq_true rfl), (Nat.le_of_ble_eq_true rfl)⟩ ⟨by omega, by omega⟩ rfl rfl dL_law_584 rfl (fun v h2 hp => ?_)
  obtain ⟨⟨z, rfl, ez⟩, m2, fr2⟩ := hp
  obtain ⟨w8, pst8, bg8, mn8, lz8, A8, -⟩ := id m2
  have o2 : h2 101 = _ := (fr2 101 (by omega)).trans o1
  refine g_istore (q := 589) (al2 := [some (.float (u)), some (.ref (0)), some (.ref (90)), some (.ref (101)), some (.ref (102)), some (.int (iI (5 * (t : Int)))), some (.int (iI (kd))), some (.int (iI (z))), none]) (by decide) rfl rfl dL_law_587 rfl ?_
  refine g_aload_n (q := 590) rfl rfl dL_law_589 rfl ?_
  refine g_Vr (q := 593) (d' := 0) (i := 90) (av := []) (st := []) (v := .int (iI (kd))) kvL_91 (t_X8_thrown l h2 kd S' sv' m2) (by decide) A8 rfl (Nat.le_of_ble_eq_true rfl) ⟨(Nat.le_of_ble_eq_true rfl), (Nat.le_of_ble_eq_true rfl)⟩ ⟨by omega, by omega⟩ rfl rfl dL_law_590 rfl ?_
  refine g_iload (q := 595) rfl dL_law_593 rfl ?_
  refine g_icmp_eq (t := 600) (q := 598) ⟨by omega, by omega⟩ ⟨by omega, by omega⟩ dL_law_595 rfl rfl (fun c595 => ?_) (fun c595 => ?_)
  · refine g_iload (q := 602) rfl dL_law_600 rfl ?_
    refine g_if_ne (t := 617) (q := 605) ⟨by omega, by omega⟩ dL_law_602 rfl rfl (fun c602 => ?_) (fun c602 => ?_)
    · refine g_goto (q := 1530) dL_law_617 rfl ?_
      refine g_drop (al2 := [some (.float (u)), some (.ref (0)), some (.ref (90)), some (.ref (101)), some (.ref (102)), some (.int (iI (5 * (t : Int)))), none, some (.int (iI (z))), none]) 6 rfl ?_
      refine g_drop (al2 := [some (.float (u)), some (.ref (0)), some (.ref (90)), some (.ref (101)), some (.ref (102)), some (.int (iI (5 * (t : Int)))), none, none, none]) 7 rfl ?_
      exact next S' sv' h2 ⟨c1.cells (fun j hj => fr2 j (Or.inl hj)), ⟨kd, m2⟩, ⟨f1, o2⟩, ⟨f9, (fr2 102 (by omega)).trans ((fr1 102 (by decide) (by decide)).trans hd9)⟩⟩
    · have hk : kd = 0 := by omega
      have ev : f1 ((0 : Int)).toNat = (iI z).toInt64 := by rw [ez hk]; exact of1 hk
      refine g_aload_n (q := 606) rfl rfl dL_law_605 rfl ?_
      refine g_iconst (q := 607) dL_law_606 rfl ?_
      refine g_laload (q := 608) (by decide) o2 (by decide) (by decide) (by decide) dL_law_607 rfl ?_
      refine g_iload (q := 610) rfl dL_law_608 rfl ?_
      refine g_i2l (q := 611) dL_law_610 rfl ?_
      refine g_lcmp (q := 612) dL_law_611 rfl ?_
      refine g_ifr_eq (t := 617) (q := 615) dL_law_612 rfl rfl (fun cl => ?_) (fun cl => ?_)
      · refine g_goto (q := 1530) dL_law_617 rfl ?_
        refine g_drop (al2 := [some (.float (u)), some (.ref (0)), some (.ref (90)), some (.ref (101)), some (.ref (102)), some (.int (iI (5 * (t : Int)))), none, some (.int (iI (z))), none]) 6 rfl ?_
        refine g_drop (al2 := [some (.float (u)), some (.ref (0)), some (.ref (90)), some (.ref (101)), some (.ref (102)), some (.int (iI (5 * (t : Int)))), none, none, none]) 7 rfl ?_
        exact next S' sv' h2 ⟨c1.cells (fun j hj => fr2 j (Or.inl hj)), ⟨kd, m2⟩, ⟨f1, o2⟩, ⟨f9, (fr2 102 (by omega)).trans ((fr1 102 (by decide) (by decide)).trans hd9)⟩⟩
      · exact absurd (by rw [ev]; exact lg_self _) cl
  · omega
set_option maxRecDepth 4000 in
theorem lc_partition (l : Launch) (L : Nat) (xs : Nat → Int32) (u : UInt32) (post : Post) (t : Nat) (h : EHp) (S : ASt) (sv : List ASt) (hL : L ≤ 2560) (ht : 5 * t + 5 ≤ L) (hW : LWo h S sv) (next : ∀ (S' : ASt) (sv' : List ASt) (h' : EHp), LWo h' S' sv' → G l (scX L xs) mL_law 14 601024 7293034 post (103 + t + 1) (11921 + 6 * t + 6) 1530 [some (.float (u)), some (.ref (0)), some (.ref (90)), some (.ref (101)), some (.ref (102)), some (.int (iI (5 * (t : Int)))), none, none, none] [] NN h') : G l (scX L xs) mL_law 14 601024 7293034 (post) (103 + t) (11921 + 6 * t) 620 [some (.float (u)), some (.ref (0)), some (.ref (90)), some (.ref (101)), some (.ref (102)), some (.int (iI (5 * (t : Int)))), none, none, none] [] NN h := by
  obtain ⟨hC, ⟨th, hM⟩, ⟨f0, ho⟩, ⟨f9, hd9⟩⟩ := id hW
  obtain ⟨z1, e1, r1⟩ := iI_any (xs (5 * (t : Int) + 1).toNat)
  obtain ⟨z2, e2, r2⟩ := iI_any (xs (5 * (t : Int) + 2).toNat)
  obtain ⟨z3, e3, r3⟩ := iI_any (xs (5 * (t : Int) + 3).toNat)
  obtain ⟨kd, v0, S', sv', kr, j1, j2⟩ := j_partition l h S sv z1 z2 z3 r1 r2 r3 hC f0 ho
  refine g_aload_n (q := 621) rfl rfl dL_law_620 rfl ?_
  refine g_aload_s (q := 622) rfl rfl dL_law_621 rfl ?_
  refine g_iload (q := 624) rfl dL_law_622 rfl ?_
  refine g_iconst (q := 625) dL_law_624 rfl ?_
  refine g_iadd (q := 626) dL_law_625 rfl ?_
  refine g_sld (q := 627) (by omega) (by omega) (by omega) dL_law_626 rfl ?_
  rw [e1]
  refine g_aload_s (q := 628) rfl rfl dL_law_627 rfl ?_
  refine g_iload (q := 630) rfl dL_law_628 rfl ?_
  refine g_iconst (q := 631) dL_law_630 rfl ?_
  refine g_iadd (q := 632) dL_law_631 rfl ?_
  refine g_sld (q := 633) (by omega) (by omega) (by omega) dL_law_632 rfl ?_
  rw [e2]
  refine g_aload_s (q := 634) rfl rfl dL_law_633 rfl ?_
  refine g_iload (q := 636) rfl dL_law_634 rfl ?_
  refine g_iconst (q := 637) dL_law_636 rfl ?_
  refine g_iadd (q := 638) dL_law_637 rfl ?_
  refine g_sld (q := 639) (by omega) (by omega) (by omega) dL_law_638 rfl ?_
  rw [e3]
  refine g_aload_n (q := 640) rfl rfl dL_law_639 rfl ?_
  refine g_Sww (q := 643) (d' := 10) (av := [.ref (0), .int (iI (z1)), .int (iI (z2)), .int (iI (z3)), .ref (101)]) (st := []) ksL_114 (j1) rfl (Nat.le_of_ble_eq_true rfl) ⟨(Nat.le_of_ble_eq_true rfl), (Nat.le_of_ble_eq_true rfl)⟩ ⟨by omega, by omega⟩ rfl rfl dL_law_640 rfl (fun v h1 hp => ?_)
  obtain ⟨rfl, c1, ⟨f1, o1, of1⟩, fr1⟩ := hp
  have hM1 : MRep h1 th S sv := hM.cells (fun j a b => fr1 j a (by omega))
  obtain ⟨w9, pst9, bg9, mn9, lz9, A9, -⟩ := id hM1
  refine g_istore (q := 645) (al2 := [some (.float (u)), some (.ref (0)), some (.ref (90)), some (.ref (101)), some (.ref (102)), some (.int (iI (5 * (t : Int)))), some (.int (iI (kd))), none, none]) (by decide) rfl rfl dL_law_643 rfl ?_
  refine g_aload_n (q := 646) rfl rfl dL_law_645 rfl ?_
  refine g_aload_s (q := 647) rfl rfl dL_law_646 rfl ?_
  refine g_iload (q := 649) rfl dL_law_647 rfl ?_
  refine g_iconst (q := 650) dL_law_649 rfl ?_
  refine g_iadd (q := 651) dL_law_650 rfl ?_
  refine g_sld (q := 652) (by omega) (by omega) (by omega) dL_law_651 rfl ?_
  rw [e1]
  refine g_aload_s (q := 653) rfl rfl dL_law_652 rfl ?_
  refine g_iload (q := 655) rfl dL_law_653 rfl ?_
  refine g_iconst (q := 656) dL_law_655 rfl ?_
  refine g_iadd (q := 657) dL_law_656 rfl ?_
  refine g_sld (q := 658) (by omega) (by omega) (by omega) dL_law_657 rfl ?_
  rw [e2]
  refine g_aload_s (q := 659) rfl rfl dL_law_658 rfl ?_
  refine g_iload (q := 661) rfl dL_law_659 rfl ?_
  refine g_iconst (q := 662) dL_law_661 rfl ?_
  refine g_iadd (q := 663) dL_law_662 rfl ?_
  refine g_sld (q := 664) (by omega) (by omega) (by omega) dL_law_663 rfl ?_
  rw [e3]
  refine g_Vw (q := 667) (d' := 6) (i := 90) (av := [.int (iI (z1)), .int (iI (z2)), .int (iI (z3))]) (st := []) kvL_117 (j2 h1 th hM1) (by decide) A9 rfl (Nat.le_of_ble_eq_true rfl) ⟨(Nat.le_of_ble_eq_true rfl), (Nat.le_of_ble_eq_true rfl)⟩ ⟨by omega, by omega⟩ rfl rfl dL_law_664 rfl (fun v h2 hp => ?_)
  obtain ⟨⟨z, rfl, ez⟩, m2, fr2⟩ := hp
  obtain ⟨w8, pst8, bg8, mn8, lz8, A8, -⟩ := id m2
  have o2 : h2 101 = _ := (fr2 101 (by omega)).trans o1
  refine g_istore (q := 669) (al2 := [some (.float (u)), some (.ref (0)), some (.ref (90)), some (.ref (101)), some (.ref (102)), some (.int (iI (5 * (t : Int)))), some (.int (iI (kd))), some (.int (iI (z))), none]) (by decide) rfl rfl dL_law_667 rfl ?_
  refine g_aload_n (q := 670) rfl rfl dL_law_669 rfl ?_
  refine g_Vr (q := 673) (d' := 0) (i := 90) (av := []) (st := []) (v := .int (iI (kd))) kvL_91 (t_X8_thrown l h2 kd S' sv' m2) (by decide) A8 rfl (Nat.le_of_ble_eq_true rfl) ⟨(Nat.le_of_ble_eq_true rfl), (Nat.le_of_ble_eq_true rfl)⟩ ⟨by omega, by omega⟩ rfl rfl dL_law_670 rfl ?_
  refine g_iload (q := 675) rfl dL_law_673 rfl ?_
  refine g_icmp_eq (t := 680) (q := 678) ⟨by omega, by omega⟩ ⟨by omega, by omega⟩ dL_law_675 rfl rfl (fun c675 => ?_) (fun c675 => ?_)
  · refine g_iload (q := 682) rfl dL_law_680 rfl ?_
    refine g_if_ne (t := 697) (q := 685) ⟨by omega, by omega⟩ dL_law_682 rfl rfl (fun c682 => ?_) (fun c682 => ?_)
    · refine g_goto (q := 1530) dL_law_697 rfl ?_
      refine g_drop (al2 := [some (.float (u)), some (.ref (0)), some (.ref (90)), some (.ref (101)), some (.ref (102)), some (.int (iI (5 * (t : Int)))), none, some (.int (iI (z))), none]) 6 rfl ?_
      refine g_drop (al2 := [some (.float (u)), some (.ref (0)), some (.ref (90)), some (.ref (101)), some (.ref (102)), some (.int (iI (5 * (t : Int)))), none, none, none]) 7 rfl ?_
      exact next S' sv' h2 ⟨c1.cells (fun j hj => fr2 j (Or.inl hj)), ⟨kd, m2⟩, ⟨f1, o2⟩, ⟨f9, (fr2 102 (by omega)).trans ((fr1 102 (by decide) (by decide)).trans hd9)⟩⟩
    · have hk : kd = 0 := by omega
      have ev : f1 ((0 : Int)).toNat = (iI z).toInt64 := by rw [ez hk]; exact of1 hk
      refine g_aload_n (q := 686) rfl rfl dL_law_685 rfl ?_
      refine g_iconst (q := 687) dL_law_686 rfl ?_
      refine g_laload (q := 688) (by decide) o2 (by decide) (by decide) (by decide) dL_law_687 rfl ?_
      refine g_iload (q := 690) rfl dL_law_688 rfl ?_
      refine g_i2l (q := 691) dL_law_690 rfl ?_
      refine g_lcmp (q := 692) dL_law_691 rfl ?_
      refine g_ifr_eq (t := 697) (q := 695) dL_law_692 rfl rfl (fun cl => ?_) (fun cl => ?_)
      · refine g_goto (q := 1530) dL_law_697 rfl ?_
        refine g_drop (al2 := [some (.float (u)), some (.ref (0)), some (.ref (90)), some (.ref (101)), some (.ref (102)), some (.int (iI (5 * (t : Int)))), none, some (.int (iI (z))), none]) 6 rfl ?_
        refine g_drop (al2 := [some (.float (u)), some (.ref (0)), some (.ref (90)), some (.ref (101)), some (.ref (102)), some (.int (iI (5 * (t : Int)))), none, none, none]) 7 rfl ?_
        exact next S' sv' h2 ⟨c1.cells (fun j hj => fr2 j (Or.inl hj)), ⟨kd, m2⟩, ⟨f1, o2⟩, ⟨f9, (fr2 102 (by omega)).trans ((fr1 102 (by decide) (by decide)).trans hd9)⟩⟩
      · exact absurd (by rw [ev]; exact lg_self _) cl
  · omega
set_option maxRecDepth 4000 in
theorem lc_codeLength (l : Launch) (L : Nat) (xs : Nat → Int32) (u : UInt32) (post : Post) (t : Nat) (h : EHp) (S : ASt) (sv : List ASt) (hL : L ≤ 2560) (ht : 5 * t + 5 ≤ L) (hW : LWo h S sv) (next : ∀ (S' : ASt) (sv' : List ASt) (h' : EHp), LWo h' S' sv' → G l (scX L xs) mL_law 14 601024 7293034 post (103 + t + 1) (11921 + 6 * t + 6) 1530 [some (.float (u)), some (.ref (0)), some (.ref (90)), some (.ref (101)), some (.ref (102)), some (.int (iI (5 * (t : Int)))), none, none, none] [] NN h') : G l (scX L xs) mL_law 14 601024 7293034 (post) (103 + t) (11921 + 6 * t) 700 [some (.float (u)), some (.ref (0)), some (.ref (90)), some (.ref (101)), some (.ref (102)), some (.int (iI (5 * (t : Int)))), none, none, none] [] NN h := by
  obtain ⟨hC, ⟨th, hM⟩, ⟨f0, ho⟩, ⟨f9, hd9⟩⟩ := id hW
  obtain ⟨z1, e1, r1⟩ := iI_any (xs (5 * (t : Int) + 1).toNat)
  obtain ⟨kd, v0, S', sv', kr, j1, j2⟩ := j_codeLength l h S sv z1 r1 hC f0 ho
  refine g_aload_n (q := 701) rfl rfl dL_law_700 rfl ?_
  refine g_aload_s (q := 702) rfl rfl dL_law_701 rfl ?_
  refine g_iload (q := 704) rfl dL_law_702 rfl ?_
  refine g_iconst (q := 705) dL_law_704 rfl ?_
  refine g_iadd (q := 706) dL_law_705 rfl ?_
  refine g_sld (q := 707) (by omega) (by omega) (by omega) dL_law_706 rfl ?_
  rw [e1]
  refine g_aload_n (q := 708) rfl rfl dL_law_707 rfl ?_
  refine g_Sww (q := 711) (d' := 10) (av := [.ref (0), .int (iI (z1)), .ref (101)]) (st := []) ksL_118 (j1) rfl (Nat.le_of_ble_eq_true rfl) ⟨(Nat.le_of_ble_eq_true rfl), (Nat.le_of_ble_eq_true rfl)⟩ ⟨by omega, by omega⟩ rfl rfl dL_law_708 rfl (fun v h1 hp => ?_)
  obtain ⟨rfl, c1, ⟨f1, o1, of1⟩, fr1⟩ := hp
  have hM1 : MRep h1 th S sv := hM.cells (fun j a b => fr1 j a (by omega))
  obtain ⟨w9, pst9, bg9, mn9, lz9, A9, -⟩ := id hM1
  refine g_istore (q := 713) (al2 := [some (.float (u)), some (.ref (0)), some (.ref (90)), some (.ref (101)), some (.ref (102)), some (.int (iI (5 * (t : Int)))), some (.int (iI (kd))), none, none]) (by decide) rfl rfl dL_law_711 rfl ?_
  refine g_aload_n (q := 714) rfl rfl dL_law_713 rfl ?_
  refine g_aload_s (q := 715) rfl rfl dL_law_714 rfl ?_
  refine g_iload (q := 717) rfl dL_law_715 rfl ?_
  refine g_iconst (q := 718) dL_law_717 rfl ?_
  refine g_iadd (q := 719) dL_law_718 rfl ?_
  refine g_sld (q := 720) (by omega) (by omega) (by omega) dL_law_719 rfl ?_
  rw [e1]
  refine g_Vw (q := 723) (d' := 7) (i := 90) (av := [.int (iI (z1))]) (st := []) kvL_120 (j2 h1 th hM1) (by decide) A9 rfl (Nat.le_of_ble_eq_true rfl) ⟨(Nat.le_of_ble_eq_true rfl), (Nat.le_of_ble_eq_true rfl)⟩ ⟨by omega, by omega⟩ rfl rfl dL_law_720 rfl (fun v h2 hp => ?_)
  obtain ⟨⟨z, rfl, ez⟩, m2, fr2⟩ := hp
  obtain ⟨w8, pst8, bg8, mn8, lz8, A8, -⟩ := id m2
  have o2 : h2 101 = _ := (fr2 101 (by omega)).trans o1
  refine g_istore (q := 725) (al2 := [some (.float (u)), some (.ref (0)), some (.ref (90)), some (.ref (101)), some (.ref (102)), some (.int (iI (5 * (t : Int)))), some (.int (iI (kd))), some (.int (iI (z))), none]) (by decide) rfl rfl dL_law_723 rfl ?_
  refine g_aload_n (q := 726) rfl rfl dL_law_725 rfl ?_
  refine g_Vr (q := 729) (d' := 0) (i := 90) (av := []) (st := []) (v := .int (iI (kd))) kvL_91 (t_X8_thrown l h2 kd S' sv' m2) (by decide) A8 rfl (Nat.le_of_ble_eq_true rfl) ⟨(Nat.le_of_ble_eq_true rfl), (Nat.le_of_ble_eq_true rfl)⟩ ⟨by omega, by omega⟩ rfl rfl dL_law_726 rfl ?_
  refine g_iload (q := 731) rfl dL_law_729 rfl ?_
  refine g_icmp_eq (t := 736) (q := 734) ⟨by omega, by omega⟩ ⟨by omega, by omega⟩ dL_law_731 rfl rfl (fun c731 => ?_) (fun c731 => ?_)
  · refine g_iload (q := 738) rfl dL_law_736 rfl ?_
    refine g_if_ne (t := 753) (q := 741) ⟨by omega, by omega⟩ dL_law_738 rfl rfl (fun c738 => ?_) (fun c738 => ?_)
    · refine g_goto (q := 1530) dL_law_753 rfl ?_
      refine g_drop (al2 := [some (.float (u)), some (.ref (0)), some (.ref (90)), some (.ref (101)), some (.ref (102)), some (.int (iI (5 * (t : Int)))), none, some (.int (iI (z))), none]) 6 rfl ?_
      refine g_drop (al2 := [some (.float (u)), some (.ref (0)), some (.ref (90)), some (.ref (101)), some (.ref (102)), some (.int (iI (5 * (t : Int)))), none, none, none]) 7 rfl ?_
      exact next S' sv' h2 ⟨c1.cells (fun j hj => fr2 j (Or.inl hj)), ⟨kd, m2⟩, ⟨f1, o2⟩, ⟨f9, (fr2 102 (by omega)).trans ((fr1 102 (by decide) (by decide)).trans hd9)⟩⟩
    · have hk : kd = 0 := by omega
      have ev : f1 ((0 : Int)).toNat = (iI z).toInt64 := by rw [ez hk]; exact of1 hk
      refine g_aload_n (q := 742) rfl rfl dL_law_741 rfl ?_
      refine g_iconst (q := 743) dL_law_742 rfl ?_
      refine g_laload (q := 744) (by decide) o2 (by decide) (by decide) (by decide) dL_law_743 rfl ?_
      refine g_iload (q := 746) rfl dL_law_744 rfl ?_
      refine g_i2l (q := 747) dL_law_746 rfl ?_
      refine g_lcmp (q := 748) dL_law_747 rfl ?_
      refine g_ifr_eq (t := 753) (q := 751) dL_law_748 rfl rfl (fun cl => ?_) (fun cl => ?_)
      · refine g_goto (q := 1530) dL_law_753 rfl ?_
        refine g_drop (al2 := [some (.float (u)), some (.ref (0)), some (.ref (90)), some (.ref (101)), some (.ref (102)), some (.int (iI (5 * (t : Int)))), none, some (.int (iI (z))), none]) 6 rfl ?_
        refine g_drop (al2 := [some (.float (u)), some (.ref (0)), some (.ref (90)), some (.ref (101)), some (.ref (102)), some (.int (iI (5 * (t : Int)))), none, none, none]) 7 rfl ?_
        exact next S' sv' h2 ⟨c1.cells (fun j hj => fr2 j (Or.inl hj)), ⟨kd, m2⟩, ⟨f1, o2⟩, ⟨f9, (fr2 102 (by omega)).trans ((fr1 102 (by decide) (by decide)).trans hd9)⟩⟩
      · exact absurd (by rw [ev]; exact lg_self _) cl
  · omega
set_option maxRecDepth 4000 in
theorem lc_codeBit (l : Launch) (L : Nat) (xs : Nat → Int32) (u : UInt32) (post : Post) (t : Nat) (h : EHp) (S : ASt) (sv : List ASt) (hL : L ≤ 2560) (ht : 5 * t + 5 ≤ L) (hW : LWo h S sv) (next : ∀ (S' : ASt) (sv' : List ASt) (h' : EHp), LWo h' S' sv' → G l (scX L xs) mL_law 14 601024 7293034 post (103 + t + 1) (11921 + 6 * t + 6) 1530 [some (.float (u)), some (.ref (0)), some (.ref (90)), some (.ref (101)), some (.ref (102)), some (.int (iI (5 * (t : Int)))), none, none, none] [] NN h') : G l (scX L xs) mL_law 14 601024 7293034 (post) (103 + t) (11921 + 6 * t) 756 [some (.float (u)), some (.ref (0)), some (.ref (90)), some (.ref (101)), some (.ref (102)), some (.int (iI (5 * (t : Int)))), none, none, none] [] NN h := by
  obtain ⟨hC, ⟨th, hM⟩, ⟨f0, ho⟩, ⟨f9, hd9⟩⟩ := id hW
  obtain ⟨z1, e1, r1⟩ := iI_any (xs (5 * (t : Int) + 1).toNat)
  obtain ⟨z2, e2, r2⟩ := iI_any (xs (5 * (t : Int) + 2).toNat)
  obtain ⟨kd, v0, S', sv', kr, j1, j2⟩ := j_codeBit l h S sv z1 z2 r1 r2 hC f0 ho
  refine g_aload_n (q := 757) rfl rfl dL_law_756 rfl ?_
  refine g_aload_s (q := 758) rfl rfl dL_law_757 rfl ?_
  refine g_iload (q := 760) rfl dL_law_758 rfl ?_
  refine g_iconst (q := 761) dL_law_760 rfl ?_
  refine g_iadd (q := 762) dL_law_761 rfl ?_
  refine g_sld (q := 763) (by omega) (by omega) (by omega) dL_law_762 rfl ?_
  rw [e1]
  refine g_aload_s (q := 764) rfl rfl dL_law_763 rfl ?_
  refine g_iload (q := 766) rfl dL_law_764 rfl ?_
  refine g_iconst (q := 767) dL_law_766 rfl ?_
  refine g_iadd (q := 768) dL_law_767 rfl ?_
  refine g_sld (q := 769) (by omega) (by omega) (by omega) dL_law_768 rfl ?_
  rw [e2]
  refine g_aload_n (q := 770) rfl rfl dL_law_769 rfl ?_
  refine g_Sww (q := 773) (d' := 10) (av := [.ref (0), .int (iI (z1)), .int (iI (z2)), .ref (101)]) (st := []) ksL_121 (j1) rfl (Nat.le_of_ble_eq_true rfl) ⟨(Nat.le_of_ble_eq_true rfl), (Nat.le_of_ble_eq_true rfl)⟩ ⟨by omega, by omega⟩ rfl rfl dL_law_770 rfl (fun v h1 hp => ?_)
  obtain ⟨rfl, c1, ⟨f1, o1, of1⟩, fr1⟩ := hp
  have hM1 : MRep h1 th S sv := hM.cells (fun j a b => fr1 j a (by omega))
  obtain ⟨w9, pst9, bg9, mn9, lz9, A9, -⟩ := id hM1
  refine g_istore (q := 775) (al2 := [some (.float (u)), some (.ref (0)), some (.ref (90)), some (.ref (101)), some (.ref (102)), some (.int (iI (5 * (t : Int)))), some (.int (iI (kd))), none, none]) (by decide) rfl rfl dL_law_773 rfl ?_
  refine g_aload_n (q := 776) rfl rfl dL_law_775 rfl ?_
  refine g_aload_s (q := 777) rfl rfl dL_law_776 rfl ?_
  refine g_iload (q := 779) rfl dL_law_777 rfl ?_
  refine g_iconst (q := 780) dL_law_779 rfl ?_
  refine g_iadd (q := 781) dL_law_780 rfl ?_
  refine g_sld (q := 782) (by omega) (by omega) (by omega) dL_law_781 rfl ?_
  rw [e1]
  refine g_aload_s (q := 783) rfl rfl dL_law_782 rfl ?_
  refine g_iload (q := 785) rfl dL_law_783 rfl ?_
  refine g_iconst (q := 786) dL_law_785 rfl ?_
  refine g_iadd (q := 787) dL_law_786 rfl ?_
  refine g_sld (q := 788) (by omega) (by omega) (by omega) dL_law_787 rfl ?_
  rw [e2]
  refine g_Vw (q := 791) (d' := 7) (i := 90) (av := [.int (iI (z1)), .int (iI (z2))]) (st := []) kvL_123 (j2 h1 th hM1) (by decide) A9 rfl (Nat.le_of_ble_eq_true rfl) ⟨(Nat.le_of_ble_eq_true rfl), (Nat.le_of_ble_eq_true rfl)⟩ ⟨by omega, by omega⟩ rfl rfl dL_law_788 rfl (fun v h2 hp => ?_)
  obtain ⟨⟨z, rfl, ez⟩, m2, fr2⟩ := hp
  obtain ⟨w8, pst8, bg8, mn8, lz8, A8, -⟩ := id m2
  have o2 : h2 101 = _ := (fr2 101 (by omega)).trans o1
  refine g_istore (q := 793) (al2 := [some (.float (u)), some (.ref (0)), some (.ref (90)), some (.ref (101)), some (.ref (102)), some (.int (iI (5 * (t : Int)))), some (.int (iI (kd))), some (.int (iI (z))), none]) (by decide) rfl rfl dL_law_791 rfl ?_
  refine g_aload_n (q := 794) rfl rfl dL_law_793 rfl ?_
  refine g_Vr (q := 797) (d' := 0) (i := 90) (av := []) (st := []) (v := .int (iI (kd))) kvL_91 (t_X8_thrown l h2 kd S' sv' m2) (by decide) A8 rfl (Nat.le_of_ble_eq_true rfl) ⟨(Nat.le_of_ble_eq_true rfl), (Nat.le_of_ble_eq_true rfl)⟩ ⟨by omega, by omega⟩ rfl rfl dL_law_794 rfl ?_
  refine g_iload (q := 799) rfl dL_law_797 rfl ?_
  refine g_icmp_eq (t := 804) (q := 802) ⟨by omega, by omega⟩ ⟨by omega, by omega⟩ dL_law_799 rfl rfl (fun c799 => ?_) (fun c799 => ?_)
  · refine g_iload (q := 806) rfl dL_law_804 rfl ?_
    refine g_if_ne (t := 821) (q := 809) ⟨by omega, by omega⟩ dL_law_806 rfl rfl (fun c806 => ?_) (fun c806 => ?_)
    · refine g_goto (q := 1530) dL_law_821 rfl ?_
      refine g_drop (al2 := [some (.float (u)), some (.ref (0)), some (.ref (90)), some (.ref (101)), some (.ref (102)), some (.int (iI (5 * (t : Int)))), none, some (.int (iI (z))), none]) 6 rfl ?_
      refine g_drop (al2 := [some (.float (u)), some (.ref (0)), some (.ref (90)), some (.ref (101)), some (.ref (102)), some (.int (iI (5 * (t : Int)))), none, none, none]) 7 rfl ?_
      exact next S' sv' h2 ⟨c1.cells (fun j hj => fr2 j (Or.inl hj)), ⟨kd, m2⟩, ⟨f1, o2⟩, ⟨f9, (fr2 102 (by omega)).trans ((fr1 102 (by decide) (by decide)).trans hd9)⟩⟩
    · have hk : kd = 0 := by omega
      have ev : f1 ((0 : Int)).toNat = (iI z).toInt64 := by rw [ez hk]; exact of1 hk
      refine g_aload_n (q := 810) rfl rfl dL_law_809 rfl ?_
      refine g_iconst (q := 811) dL_law_810 rfl ?_
      refine g_laload (q := 812) (by decide) o2 (by decide) (by decide) (by decide) dL_law_811 rfl ?_
      refine g_iload (q := 814) rfl dL_law_812 rfl ?_
      refine g_i2l (q := 815) dL_law_814 rfl ?_
      refine g_lcmp (q := 816) dL_law_815 rfl ?_
      refine g_ifr_eq (t := 821) (q := 819) dL_law_816 rfl rfl (fun cl => ?_) (fun cl => ?_)
      · refine g_goto (q := 1530) dL_law_821 rfl ?_
        refine g_drop (al2 := [some (.float (u)), some (.ref (0)), some (.ref (90)), some (.ref (101)), some (.ref (102)), some (.int (iI (5 * (t : Int)))), none, some (.int (iI (z))), none]) 6 rfl ?_
        refine g_drop (al2 := [some (.float (u)), some (.ref (0)), some (.ref (90)), some (.ref (101)), some (.ref (102)), some (.int (iI (5 * (t : Int)))), none, none, none]) 7 rfl ?_
        exact next S' sv' h2 ⟨c1.cells (fun j hj => fr2 j (Or.inl hj)), ⟨kd, m2⟩, ⟨f1, o2⟩, ⟨f9, (fr2 102 (by omega)).trans ((fr1 102 (by decide) (by decide)).trans hd9)⟩⟩
      · exact absurd (by rw [ev]; exact lg_self _) cl
  · omega
set_option maxRecDepth 4000 in
theorem lc_fixedLength (l : Launch) (L : Nat) (xs : Nat → Int32) (u : UInt32) (post : Post) (t : Nat) (h : EHp) (S : ASt) (sv : List ASt) (hL : L ≤ 2560) (ht : 5 * t + 5 ≤ L) (hW : LWo h S sv) (next : ∀ (S' : ASt) (sv' : List ASt) (h' : EHp), LWo h' S' sv' → G l (scX L xs) mL_law 14 601024 7293034 post (103 + t + 1) (11921 + 6 * t + 6) 1530 [some (.float (u)), some (.ref (0)), some (.ref (90)), some (.ref (101)), some (.ref (102)), some (.int (iI (5 * (t : Int)))), none, none, none] [] NN h') : G l (scX L xs) mL_law 14 601024 7293034 (post) (103 + t) (11921 + 6 * t) 824 [some (.float (u)), some (.ref (0)), some (.ref (90)), some (.ref (101)), some (.ref (102)), some (.int (iI (5 * (t : Int)))), none, none, none] [] NN h := by
  obtain ⟨hC, ⟨th, hM⟩, ⟨f0, ho⟩, ⟨f9, hd9⟩⟩ := id hW
  obtain ⟨z1, e1, r1⟩ := iI_any (xs (5 * (t : Int) + 1).toNat)
  obtain ⟨z2, e2, r2⟩ := iI_any (xs (5 * (t : Int) + 2).toNat)
  obtain ⟨kd, v0, S', sv', kr, j1, j2⟩ := j_fixedLength l h S sv z1 z2 r1 r2 hC f0 ho
  refine g_aload_n (q := 825) rfl rfl dL_law_824 rfl ?_
  refine g_aload_s (q := 826) rfl rfl dL_law_825 rfl ?_
  refine g_iload (q := 828) rfl dL_law_826 rfl ?_
  refine g_iconst (q := 829) dL_law_828 rfl ?_
  refine g_iadd (q := 830) dL_law_829 rfl ?_
  refine g_sld (q := 831) (by omega) (by omega) (by omega) dL_law_830 rfl ?_
  rw [e1]
  refine g_aload_s (q := 832) rfl rfl dL_law_831 rfl ?_
  refine g_iload (q := 834) rfl dL_law_832 rfl ?_
  refine g_iconst (q := 835) dL_law_834 rfl ?_
  refine g_iadd (q := 836) dL_law_835 rfl ?_
  refine g_sld (q := 837) (by omega) (by omega) (by omega) dL_law_836 rfl ?_
  rw [e2]
  refine g_aload_n (q := 838) rfl rfl dL_law_837 rfl ?_
  refine g_Sww (q := 841) (d' := 10) (av := [.ref (0), .int (iI (z1)), .int (iI (z2)), .ref (101)]) (st := []) ksL_124 (j1) rfl (Nat.le_of_ble_eq_true rfl) ⟨(Nat.le_of_ble_eq_true rfl), (Nat.le_of_ble_eq_true rfl)⟩ ⟨by omega, by omega⟩ rfl rfl dL_law_838 rfl (fun v h1 hp => ?_)
  obtain ⟨rfl, c1, ⟨f1, o1, of1⟩, fr1⟩ := hp
  have hM1 : MRep h1 th S sv := hM.cells (fun j a b => fr1 j a (by omega))
  obtain ⟨w9, pst9, bg9, mn9, lz9, A9, -⟩ := id hM1
  refine g_istore (q := 843) (al2 := [some (.float (u)), some (.ref (0)), some (.ref (90)), some (.ref (101)), some (.ref (102)), some (.int (iI (5 * (t : Int)))), some (.int (iI (kd))), none, none]) (by decide) rfl rfl dL_law_841 rfl ?_
  refine g_aload_n (q := 844) rfl rfl dL_law_843 rfl ?_
  refine g_aload_s (q := 845) rfl rfl dL_law_844 rfl ?_
  refine g_iload (q := 847) rfl dL_law_845 rfl ?_
  refine g_iconst (q := 848) dL_law_847 rfl ?_
  refine g_iadd (q := 849) dL_law_848 rfl ?_
  refine g_sld (q := 850) (by omega) (by omega) (by omega) dL_law_849 rfl ?_
  rw [e1]
  refine g_aload_s (q := 851) rfl rfl dL_law_850 rfl ?_
  refine g_iload (q := 853) rfl dL_law_851 rfl ?_
  refine g_iconst (q := 854) dL_law_853 rfl ?_
  refine g_iadd (q := 855) dL_law_854 rfl ?_
  refine g_sld (q := 856) (by omega) (by omega) (by omega) dL_law_855 rfl ?_
  rw [e2]
  refine g_Vw (q := 859) (d' := 4) (i := 90) (av := [.int (iI (z1)), .int (iI (z2))]) (st := []) kvL_126 (j2 h1 th hM1) (by decide) A9 rfl (Nat.le_of_ble_eq_true rfl) ⟨(Nat.le_of_ble_eq_true rfl), (Nat.le_of_ble_eq_true rfl)⟩ ⟨by omega, by omega⟩ rfl rfl dL_law_856 rfl (fun v h2 hp => ?_)
  obtain ⟨⟨z, rfl, ez⟩, m2, fr2⟩ := hp
  obtain ⟨w8, pst8, bg8, mn8, lz8, A8, -⟩ := id m2
  have o2 : h2 101 = _ := (fr2 101 (by omega)).trans o1
  refine g_istore (q := 861) (al2 := [some (.float (u)), some (.ref (0)), some (.ref (90)), some (.ref (101)), some (.ref (102)), some (.int (iI (5 * (t : Int)))), some (.int (iI (kd))), some (.int (iI (z))), none]) (by decide) rfl rfl dL_law_859 rfl ?_
  refine g_aload_n (q := 862) rfl rfl dL_law_861 rfl ?_
  refine g_Vr (q := 865) (d' := 0) (i := 90) (av := []) (st := []) (v := .int (iI (kd))) kvL_91 (t_X8_thrown l h2 kd S' sv' m2) (by decide) A8 rfl (Nat.le_of_ble_eq_true rfl) ⟨(Nat.le_of_ble_eq_true rfl), (Nat.le_of_ble_eq_true rfl)⟩ ⟨by omega, by omega⟩ rfl rfl dL_law_862 rfl ?_
  refine g_iload (q := 867) rfl dL_law_865 rfl ?_
  refine g_icmp_eq (t := 872) (q := 870) ⟨by omega, by omega⟩ ⟨by omega, by omega⟩ dL_law_867 rfl rfl (fun c867 => ?_) (fun c867 => ?_)
  · refine g_iload (q := 874) rfl dL_law_872 rfl ?_
    refine g_if_ne (t := 889) (q := 877) ⟨by omega, by omega⟩ dL_law_874 rfl rfl (fun c874 => ?_) (fun c874 => ?_)
    · refine g_goto (q := 1530) dL_law_889 rfl ?_
      refine g_drop (al2 := [some (.float (u)), some (.ref (0)), some (.ref (90)), some (.ref (101)), some (.ref (102)), some (.int (iI (5 * (t : Int)))), none, some (.int (iI (z))), none]) 6 rfl ?_
      refine g_drop (al2 := [some (.float (u)), some (.ref (0)), some (.ref (90)), some (.ref (101)), some (.ref (102)), some (.int (iI (5 * (t : Int)))), none, none, none]) 7 rfl ?_
      exact next S' sv' h2 ⟨c1.cells (fun j hj => fr2 j (Or.inl hj)), ⟨kd, m2⟩, ⟨f1, o2⟩, ⟨f9, (fr2 102 (by omega)).trans ((fr1 102 (by decide) (by decide)).trans hd9)⟩⟩
    · have hk : kd = 0 := by omega
      have ev : f1 ((0 : Int)).toNat = (iI z).toInt64 := by rw [ez hk]; exact of1 hk
      refine g_aload_n (q := 878) rfl rfl dL_law_877 rfl ?_
      refine g_iconst (q := 879) dL_law_878 rfl ?_
      refine g_laload (q := 880) (by decide) o2 (by decide) (by decide) (by decide) dL_law_879 rfl ?_
      refine g_iload (q := 882) rfl dL_law_880 rfl ?_
      refine g_i2l (q := 883) dL_law_882 rfl ?_
      refine g_lcmp (q := 884) dL_law_883 rfl ?_
      refine g_ifr_eq (t := 889) (q := 887) dL_law_884 rfl rfl (fun cl => ?_) (fun cl => ?_)
      · refine g_goto (q := 1530) dL_law_889 rfl ?_
        refine g_drop (al2 := [some (.float (u)), some (.ref (0)), some (.ref (90)), some (.ref (101)), some (.ref (102)), some (.int (iI (5 * (t : Int)))), none, some (.int (iI (z))), none]) 6 rfl ?_
        refine g_drop (al2 := [some (.float (u)), some (.ref (0)), some (.ref (90)), some (.ref (101)), some (.ref (102)), some (.int (iI (5 * (t : Int)))), none, none, none]) 7 rfl ?_
        exact next S' sv' h2 ⟨c1.cells (fun j hj => fr2 j (Or.inl hj)), ⟨kd, m2⟩, ⟨f1, o2⟩, ⟨f9, (fr2 102 (by omega)).trans ((fr1 102 (by decide) (by decide)).trans hd9)⟩⟩
      · exact absurd (by rw [ev]; exact lg_self _) cl
  · omega
set_option maxRecDepth 4000 in
theorem lc_bitsPerDocument (l : Launch) (L : Nat) (xs : Nat → Int32) (u : UInt32) (post : Post) (t : Nat) (h : EHp) (S : ASt) (sv : List ASt) (hL : L ≤ 2560) (ht : 5 * t + 5 ≤ L) (hW : LWo h S sv) (next : ∀ (S' : ASt) (sv' : List ASt) (h' : EHp), LWo h' S' sv' → G l (scX L xs) mL_law 14 601024 7293034 post (103 + t + 1) (11921 + 6 * t + 6) 1530 [some (.float (u)), some (.ref (0)), some (.ref (90)), some (.ref (101)), some (.ref (102)), some (.int (iI (5 * (t : Int)))), none, none, none] [] NN h') : G l (scX L xs) mL_law 14 601024 7293034 (post) (103 + t) (11921 + 6 * t) 892 [some (.float (u)), some (.ref (0)), some (.ref (90)), some (.ref (101)), some (.ref (102)), some (.int (iI (5 * (t : Int)))), none, none, none] [] NN h := by
  obtain ⟨hC, ⟨th, hM⟩, ⟨f0, ho⟩, ⟨f9, hd9⟩⟩ := id hW
  obtain ⟨z1, e1, r1⟩ := iI_any (xs (5 * (t : Int) + 1).toNat)
  obtain ⟨kd, v0, S', sv', kr, j1, j2⟩ := j_bitsPerDocument l h S sv z1 r1 hC f9 hd9
  refine g_aload_n (q := 893) rfl rfl dL_law_892 rfl ?_
  refine g_aload_s (q := 894) rfl rfl dL_law_893 rfl ?_
  refine g_iload (q := 896) rfl dL_law_894 rfl ?_
  refine g_iconst (q := 897) dL_law_896 rfl ?_
  refine g_iadd (q := 898) dL_law_897 rfl ?_
  refine g_sld (q := 899) (by omega) (by omega) (by omega) dL_law_898 rfl ?_
  rw [e1]
  refine g_aload (q := 901) rfl dL_law_899 rfl ?_
  refine g_Sww (q := 904) (d' := 10) (av := [.ref (0), .int (iI (z1)), .ref (102)]) (st := []) ksL_127 (j1) rfl (Nat.le_of_ble_eq_true rfl) ⟨(Nat.le_of_ble_eq_true rfl), (Nat.le_of_ble_eq_true rfl)⟩ ⟨by omega, by omega⟩ rfl rfl dL_law_901 rfl (fun v h1 hp => ?_)
  obtain ⟨rfl, c1, ⟨f1, o1, of1⟩, fr1⟩ := hp
  have hM1 : MRep h1 th S sv := hM.cells (fun j a b => fr1 j a (by omega))
  obtain ⟨w9, pst9, bg9, mn9, lz9, A9, -⟩ := id hM1
  refine g_istore (q := 906) (al2 := [some (.float (u)), some (.ref (0)), some (.ref (90)), some (.ref (101)), some (.ref (102)), some (.int (iI (5 * (t : Int)))), some (.int (iI (kd))), none, none]) (by decide) rfl rfl dL_law_904 rfl ?_
  refine g_aload_n (q := 907) rfl rfl dL_law_906 rfl ?_
  refine g_aload_s (q := 908) rfl rfl dL_law_907 rfl ?_
  refine g_iload (q := 910) rfl dL_law_908 rfl ?_
  refine g_iconst (q := 911) dL_law_910 rfl ?_
  refine g_iadd (q := 912) dL_law_911 rfl ?_
  refine g_sld (q := 913) (by omega) (by omega) (by omega) dL_law_912 rfl ?_
  rw [e1]
  refine g_Vw (q := 916) (d' := 7) (i := 90) (av := [.int (iI (z1))]) (st := []) kvL_130 (j2 h1 th hM1) (by decide) A9 rfl (Nat.le_of_ble_eq_true rfl) ⟨(Nat.le_of_ble_eq_true rfl), (Nat.le_of_ble_eq_true rfl)⟩ ⟨by omega, by omega⟩ rfl rfl dL_law_913 rfl (fun v h2 hp => ?_)
  obtain ⟨⟨z, rfl, ez⟩, m2, fr2⟩ := hp
  obtain ⟨w8, pst8, bg8, mn8, lz8, A8, -⟩ := id m2
  have o2 : h2 102 = _ := (fr2 102 (by omega)).trans o1
  refine g_dstore (q := 918) (al2 := [some (.float (u)), some (.ref (0)), some (.ref (90)), some (.ref (101)), some (.ref (102)), some (.int (iI (5 * (t : Int)))), some (.int (iI (kd))), some (.double (z)), none]) (by decide) rfl rfl dL_law_916 rfl ?_
  refine g_aload_n (q := 919) rfl rfl dL_law_918 rfl ?_
  refine g_Vr (q := 922) (d' := 0) (i := 90) (av := []) (st := []) (v := .int (iI (kd))) kvL_91 (t_X8_thrown l h2 kd S' sv' m2) (by decide) A8 rfl (Nat.le_of_ble_eq_true rfl) ⟨(Nat.le_of_ble_eq_true rfl), (Nat.le_of_ble_eq_true rfl)⟩ ⟨by omega, by omega⟩ rfl rfl dL_law_919 rfl ?_
  refine g_iload (q := 924) rfl dL_law_922 rfl ?_
  refine g_icmp_eq (t := 929) (q := 927) ⟨by omega, by omega⟩ ⟨by omega, by omega⟩ dL_law_924 rfl rfl (fun c924 => ?_) (fun c924 => ?_)
  · refine g_iload (q := 931) rfl dL_law_929 rfl ?_
    refine g_if_ne (t := 966) (q := 934) ⟨by omega, by omega⟩ dL_law_931 rfl rfl (fun c931 => ?_) (fun c931 => ?_)
    · refine g_goto (q := 1530) dL_law_966 rfl ?_
      refine g_drop (al2 := [some (.float (u)), some (.ref (0)), some (.ref (90)), some (.ref (101)), some (.ref (102)), some (.int (iI (5 * (t : Int)))), none, some (.double (z)), none]) 6 rfl ?_
      refine g_drop (al2 := [some (.float (u)), some (.ref (0)), some (.ref (90)), some (.ref (101)), some (.ref (102)), some (.int (iI (5 * (t : Int)))), none, none, none]) 7 rfl ?_
      exact next S' sv' h2 ⟨c1.cells (fun j hj => fr2 j (Or.inl hj)), ⟨kd, m2⟩, ⟨f0, (fr2 101 (by omega)).trans ((fr1 101 (by decide) (by decide)).trans ho)⟩, ⟨f1, o2⟩⟩
    · have hk : kd = 0 := by omega
      have ev : f1 ((0 : Int)).toNat = z := by rw [ez hk]; exact of1 hk
      refine g_aload (q := 936) rfl dL_law_934 rfl ?_
      refine g_iconst (q := 937) dL_law_936 rfl ?_
      refine g_daload (q := 938) (by decide) o2 (by decide) (by decide) (by decide) dL_law_937 rfl ?_
      refine g_dload (q := 940) rfl dL_law_938 rfl ?_
      refine g_dcmp (q := 941) dL_law_940 rfl ?_
      refine g_ifr_eq (t := 966) (q := 944) dL_law_941 rfl rfl (fun c1x => ?_) (fun c1x => ?_)
      · refine g_goto (q := 1530) dL_law_966 rfl ?_
        refine g_drop (al2 := [some (.float (u)), some (.ref (0)), some (.ref (90)), some (.ref (101)), some (.ref (102)), some (.int (iI (5 * (t : Int)))), none, some (.double (z)), none]) 6 rfl ?_
        refine g_drop (al2 := [some (.float (u)), some (.ref (0)), some (.ref (90)), some (.ref (101)), some (.ref (102)), some (.int (iI (5 * (t : Int)))), none, none, none]) 7 rfl ?_
        exact next S' sv' h2 ⟨c1.cells (fun j hj => fr2 j (Or.inl hj)), ⟨kd, m2⟩, ⟨f0, (fr2 101 (by omega)).trans ((fr1 101 (by decide) (by decide)).trans ho)⟩, ⟨f1, o2⟩⟩
      · refine g_aload (q := 946) rfl dL_law_944 rfl ?_
        refine g_iconst (q := 947) dL_law_946 rfl ?_
        refine g_daload (q := 948) (by decide) o2 (by decide) (by decide) (by decide) dL_law_947 rfl ?_
        refine g_aload (q := 950) rfl dL_law_948 rfl ?_
        refine g_iconst (q := 951) dL_law_950 rfl ?_
        refine g_daload (q := 952) (by decide) o2 (by decide) (by decide) (by decide) dL_law_951 rfl ?_
        refine g_dcmp (q := 953) dL_law_952 rfl ?_
        refine g_ifr_eq (t := 964) (q := 956) dL_law_953 rfl rfl (fun c2x => ?_) (fun c2x => ?_)
        · exact absurd c2x (by rw [ev] at c1x ⊢; exact c1x)
        · refine g_dload (q := 958) rfl dL_law_956 rfl ?_
          refine g_dload (q := 960) rfl dL_law_958 rfl ?_
          refine g_dcmp (q := 961) dL_law_960 rfl ?_
          refine g_ifr_ne (t := 966) (q := 964) dL_law_961 rfl rfl (fun c3 => ?_) (fun c3 => ?_)
          · refine g_goto (q := 1530) dL_law_966 rfl ?_
            refine g_drop (al2 := [some (.float (u)), some (.ref (0)), some (.ref (90)), some (.ref (101)), some (.ref (102)), some (.int (iI (5 * (t : Int)))), none, some (.double (z)), none]) 6 rfl ?_
            refine g_drop (al2 := [some (.float (u)), some (.ref (0)), some (.ref (90)), some (.ref (101)), some (.ref (102)), some (.int (iI (5 * (t : Int)))), none, none, none]) 7 rfl ?_
            exact next S' sv' h2 ⟨c1.cells (fun j hj => fr2 j (Or.inl hj)), ⟨kd, m2⟩, ⟨f0, (fr2 101 (by omega)).trans ((fr1 101 (by decide) (by decide)).trans ho)⟩, ⟨f1, o2⟩⟩
          · exact absurd c3 (by rw [ev] at c1x; exact c1x)
  · omega
set_option maxRecDepth 4000 in
theorem lc_nextAtLeast (l : Launch) (L : Nat) (xs : Nat → Int32) (u : UInt32) (post : Post) (t : Nat) (h : EHp) (S : ASt) (sv : List ASt) (hL : L ≤ 2560) (ht : 5 * t + 5 ≤ L) (hW : LWo h S sv) (next : ∀ (S' : ASt) (sv' : List ASt) (h' : EHp), LWo h' S' sv' → G l (scX L xs) mL_law 14 601024 7293034 post (103 + t + 1) (11921 + 6 * t + 6) 1530 [some (.float (u)), some (.ref (0)), some (.ref (90)), some (.ref (101)), some (.ref (102)), some (.int (iI (5 * (t : Int)))), none, none, none] [] NN h') : G l (scX L xs) mL_law 14 601024 7293034 (post) (103 + t) (11921 + 6 * t) 969 [some (.float (u)), some (.ref (0)), some (.ref (90)), some (.ref (101)), some (.ref (102)), some (.int (iI (5 * (t : Int)))), none, none, none] [] NN h := by
  obtain ⟨hC, ⟨th, hM⟩, ⟨f0, ho⟩, ⟨f9, hd9⟩⟩ := id hW
  obtain ⟨z1, e1, r1⟩ := iI_any (xs (5 * (t : Int) + 1).toNat)
  obtain ⟨z2, e2, r2⟩ := iI_any (xs (5 * (t : Int) + 2).toNat)
  obtain ⟨kd, v0, S', sv', kr, j1, j2⟩ := j_nextAtLeast l h S sv z1 z2 r1 r2 hC f0 ho
  refine g_aload_n (q := 970) rfl rfl dL_law_969 rfl ?_
  refine g_aload_s (q := 971) rfl rfl dL_law_970 rfl ?_
  refine g_iload (q := 973) rfl dL_law_971 rfl ?_
  refine g_iconst (q := 974) dL_law_973 rfl ?_
  refine g_iadd (q := 975) dL_law_974 rfl ?_
  refine g_sld (q := 976) (by omega) (by omega) (by omega) dL_law_975 rfl ?_
  rw [e1]
  refine g_aload_s (q := 977) rfl rfl dL_law_976 rfl ?_
  refine g_iload (q := 979) rfl dL_law_977 rfl ?_
  refine g_iconst (q := 980) dL_law_979 rfl ?_
  refine g_iadd (q := 981) dL_law_980 rfl ?_
  refine g_sld (q := 982) (by omega) (by omega) (by omega) dL_law_981 rfl ?_
  rw [e2]
  refine g_aload_n (q := 983) rfl rfl dL_law_982 rfl ?_
  refine g_Sww (q := 986) (d' := 9) (av := [.ref (0), .int (iI (z1)), .int (iI (z2)), .ref (101)]) (st := []) ksL_131 (j1) rfl (Nat.le_of_ble_eq_true rfl) ⟨(Nat.le_of_ble_eq_true rfl), (Nat.le_of_ble_eq_true rfl)⟩ ⟨by omega, by omega⟩ rfl rfl dL_law_983 rfl (fun v h1 hp => ?_)
  obtain ⟨rfl, c1, ⟨f1, o1, of1⟩, fr1⟩ := hp
  have hM1 : MRep h1 th S sv := hM.cells (fun j a b => fr1 j a (by omega))
  obtain ⟨w9, pst9, bg9, mn9, lz9, A9, -⟩ := id hM1
  refine g_istore (q := 988) (al2 := [some (.float (u)), some (.ref (0)), some (.ref (90)), some (.ref (101)), some (.ref (102)), some (.int (iI (5 * (t : Int)))), some (.int (iI (kd))), none, none]) (by decide) rfl rfl dL_law_986 rfl ?_
  refine g_aload_n (q := 989) rfl rfl dL_law_988 rfl ?_
  refine g_aload_s (q := 990) rfl rfl dL_law_989 rfl ?_
  refine g_iload (q := 992) rfl dL_law_990 rfl ?_
  refine g_iconst (q := 993) dL_law_992 rfl ?_
  refine g_iadd (q := 994) dL_law_993 rfl ?_
  refine g_sld (q := 995) (by omega) (by omega) (by omega) dL_law_994 rfl ?_
  rw [e1]
  refine g_aload_s (q := 996) rfl rfl dL_law_995 rfl ?_
  refine g_iload (q := 998) rfl dL_law_996 rfl ?_
  refine g_iconst (q := 999) dL_law_998 rfl ?_
  refine g_iadd (q := 1000) dL_law_999 rfl ?_
  refine g_sld (q := 1001) (by omega) (by omega) (by omega) dL_law_1000 rfl ?_
  rw [e2]
  refine g_Vw (q := 1004) (d' := 8) (i := 90) (av := [.int (iI (z1)), .int (iI (z2))]) (st := []) kvL_133 (j2 h1 th hM1) (by decide) A9 rfl (Nat.le_of_ble_eq_true rfl) ⟨(Nat.le_of_ble_eq_true rfl), (Nat.le_of_ble_eq_true rfl)⟩ ⟨by omega, by omega⟩ rfl rfl dL_law_1001 rfl (fun v h2 hp => ?_)
  obtain ⟨⟨z, rfl, ez⟩, m2, fr2⟩ := hp
  obtain ⟨w8, pst8, bg8, mn8, lz8, A8, -⟩ := id m2
  have o2 : h2 101 = _ := (fr2 101 (by omega)).trans o1
  refine g_istore (q := 1006) (al2 := [some (.float (u)), some (.ref (0)), some (.ref (90)), some (.ref (101)), some (.ref (102)), some (.int (iI (5 * (t : Int)))), some (.int (iI (kd))), some (.int (iI (z))), none]) (by decide) rfl rfl dL_law_1004 rfl ?_
  refine g_aload_n (q := 1007) rfl rfl dL_law_1006 rfl ?_
  refine g_Vr (q := 1010) (d' := 0) (i := 90) (av := []) (st := []) (v := .int (iI (kd))) kvL_91 (t_X8_thrown l h2 kd S' sv' m2) (by decide) A8 rfl (Nat.le_of_ble_eq_true rfl) ⟨(Nat.le_of_ble_eq_true rfl), (Nat.le_of_ble_eq_true rfl)⟩ ⟨by omega, by omega⟩ rfl rfl dL_law_1007 rfl ?_
  refine g_iload (q := 1012) rfl dL_law_1010 rfl ?_
  refine g_icmp_eq (t := 1017) (q := 1015) ⟨by omega, by omega⟩ ⟨by omega, by omega⟩ dL_law_1012 rfl rfl (fun c1012 => ?_) (fun c1012 => ?_)
  · refine g_iload (q := 1019) rfl dL_law_1017 rfl ?_
    refine g_if_ne (t := 1034) (q := 1022) ⟨by omega, by omega⟩ dL_law_1019 rfl rfl (fun c1019 => ?_) (fun c1019 => ?_)
    · refine g_goto (q := 1530) dL_law_1034 rfl ?_
      refine g_drop (al2 := [some (.float (u)), some (.ref (0)), some (.ref (90)), some (.ref (101)), some (.ref (102)), some (.int (iI (5 * (t : Int)))), none, some (.int (iI (z))), none]) 6 rfl ?_
      refine g_drop (al2 := [some (.float (u)), some (.ref (0)), some (.ref (90)), some (.ref (101)), some (.ref (102)), some (.int (iI (5 * (t : Int)))), none, none, none]) 7 rfl ?_
      exact next S' sv' h2 ⟨c1.cells (fun j hj => fr2 j (Or.inl hj)), ⟨kd, m2⟩, ⟨f1, o2⟩, ⟨f9, (fr2 102 (by omega)).trans ((fr1 102 (by decide) (by decide)).trans hd9)⟩⟩
    · have hk : kd = 0 := by omega
      have ev : f1 ((0 : Int)).toNat = (iI z).toInt64 := by rw [ez hk]; exact of1 hk
      refine g_aload_n (q := 1023) rfl rfl dL_law_1022 rfl ?_
      refine g_iconst (q := 1024) dL_law_1023 rfl ?_
      refine g_laload (q := 1025) (by decide) o2 (by decide) (by decide) (by decide) dL_law_1024 rfl ?_
      refine g_iload (q := 1027) rfl dL_law_1025 rfl ?_
      refine g_i2l (q := 1028) dL_law_1027 rfl ?_
      refine g_lcmp (q := 1029) dL_law_1028 rfl ?_
      refine g_ifr_eq (t := 1034) (q := 1032) dL_law_1029 rfl rfl (fun cl => ?_) (fun cl => ?_)
      · refine g_goto (q := 1530) dL_law_1034 rfl ?_
        refine g_drop (al2 := [some (.float (u)), some (.ref (0)), some (.ref (90)), some (.ref (101)), some (.ref (102)), some (.int (iI (5 * (t : Int)))), none, some (.int (iI (z))), none]) 6 rfl ?_
        refine g_drop (al2 := [some (.float (u)), some (.ref (0)), some (.ref (90)), some (.ref (101)), some (.ref (102)), some (.int (iI (5 * (t : Int)))), none, none, none]) 7 rfl ?_
        exact next S' sv' h2 ⟨c1.cells (fun j hj => fr2 j (Or.inl hj)), ⟨kd, m2⟩, ⟨f1, o2⟩, ⟨f9, (fr2 102 (by omega)).trans ((fr1 102 (by decide) (by decide)).trans hd9)⟩⟩
      · exact absurd (by rw [ev]; exact lg_self _) cl
  · omega
set_option maxRecDepth 4000 in
theorem lc_countIntersection (l : Launch) (L : Nat) (xs : Nat → Int32) (u : UInt32) (post : Post) (t : Nat) (h : EHp) (S : ASt) (sv : List ASt) (hL : L ≤ 2560) (ht : 5 * t + 5 ≤ L) (hW : LWo h S sv) (next : ∀ (S' : ASt) (sv' : List ASt) (h' : EHp), LWo h' S' sv' → G l (scX L xs) mL_law 14 601024 7293034 post (103 + t + 1) (11921 + 6 * t + 6) 1530 [some (.float (u)), some (.ref (0)), some (.ref (90)), some (.ref (101)), some (.ref (102)), some (.int (iI (5 * (t : Int)))), none, none, none] [] NN h') : G l (scX L xs) mL_law 14 601024 7293034 (post) (103 + t) (11921 + 6 * t) 1037 [some (.float (u)), some (.ref (0)), some (.ref (90)), some (.ref (101)), some (.ref (102)), some (.int (iI (5 * (t : Int)))), none, none, none] [] NN h := by
  obtain ⟨hC, ⟨th, hM⟩, ⟨f0, ho⟩, ⟨f9, hd9⟩⟩ := id hW
  obtain ⟨z1, e1, r1⟩ := iI_any (xs (5 * (t : Int) + 1).toNat)
  obtain ⟨kd, v0, S', sv', kr, j1, j2⟩ := j_countIntersection l h S sv z1 r1 hC f0 ho
  refine g_aload_n (q := 1038) rfl rfl dL_law_1037 rfl ?_
  refine g_aload_s (q := 1039) rfl rfl dL_law_1038 rfl ?_
  refine g_iload (q := 1041) rfl dL_law_1039 rfl ?_
  refine g_iconst (q := 1042) dL_law_1041 rfl ?_
  refine g_iadd (q := 1043) dL_law_1042 rfl ?_
  refine g_sld (q := 1044) (by omega) (by omega) (by omega) dL_law_1043 rfl ?_
  rw [e1]
  refine g_aload_n (q := 1045) rfl rfl dL_law_1044 rfl ?_
  refine g_Sww (q := 1048) (d' := 9) (av := [.ref (0), .int (iI (z1)), .ref (101)]) (st := []) ksL_134 (j1) rfl (Nat.le_of_ble_eq_true rfl) ⟨(Nat.le_of_ble_eq_true rfl), (Nat.le_of_ble_eq_true rfl)⟩ ⟨by omega, by omega⟩ rfl rfl dL_law_1045 rfl (fun v h1 hp => ?_)
  obtain ⟨rfl, c1, ⟨f1, o1, of1⟩, fr1⟩ := hp
  have hM1 : MRep h1 th S sv := hM.cells (fun j a b => fr1 j a (by omega))
  obtain ⟨w9, pst9, bg9, mn9, lz9, A9, -⟩ := id hM1
  refine g_istore (q := 1050) (al2 := [some (.float (u)), some (.ref (0)), some (.ref (90)), some (.ref (101)), some (.ref (102)), some (.int (iI (5 * (t : Int)))), some (.int (iI (kd))), none, none]) (by decide) rfl rfl dL_law_1048 rfl ?_
  refine g_aload_n (q := 1051) rfl rfl dL_law_1050 rfl ?_
  refine g_aload_s (q := 1052) rfl rfl dL_law_1051 rfl ?_
  refine g_iload (q := 1054) rfl dL_law_1052 rfl ?_
  refine g_iconst (q := 1055) dL_law_1054 rfl ?_
  refine g_iadd (q := 1056) dL_law_1055 rfl ?_
  refine g_sld (q := 1057) (by omega) (by omega) (by omega) dL_law_1056 rfl ?_
  rw [e1]
  refine g_Vw (q := 1060) (d' := 9) (i := 90) (av := [.int (iI (z1))]) (st := []) kvL_136 (j2 h1 th hM1) (by decide) A9 rfl (Nat.le_of_ble_eq_true rfl) ⟨(Nat.le_of_ble_eq_true rfl), (Nat.le_of_ble_eq_true rfl)⟩ ⟨by omega, by omega⟩ rfl rfl dL_law_1057 rfl (fun v h2 hp => ?_)
  obtain ⟨⟨z, rfl, ez⟩, m2, fr2⟩ := hp
  obtain ⟨w8, pst8, bg8, mn8, lz8, A8, -⟩ := id m2
  have o2 : h2 101 = _ := (fr2 101 (by omega)).trans o1
  refine g_istore (q := 1062) (al2 := [some (.float (u)), some (.ref (0)), some (.ref (90)), some (.ref (101)), some (.ref (102)), some (.int (iI (5 * (t : Int)))), some (.int (iI (kd))), some (.int (iI (z))), none]) (by decide) rfl rfl dL_law_1060 rfl ?_
  refine g_aload_n (q := 1063) rfl rfl dL_law_1062 rfl ?_
  refine g_Vr (q := 1066) (d' := 0) (i := 90) (av := []) (st := []) (v := .int (iI (kd))) kvL_91 (t_X8_thrown l h2 kd S' sv' m2) (by decide) A8 rfl (Nat.le_of_ble_eq_true rfl) ⟨(Nat.le_of_ble_eq_true rfl), (Nat.le_of_ble_eq_true rfl)⟩ ⟨by omega, by omega⟩ rfl rfl dL_law_1063 rfl ?_
  refine g_iload (q := 1068) rfl dL_law_1066 rfl ?_
  refine g_icmp_eq (t := 1073) (q := 1071) ⟨by omega, by omega⟩ ⟨by omega, by omega⟩ dL_law_1068 rfl rfl (fun c1068 => ?_) (fun c1068 => ?_)
  · refine g_iload (q := 1075) rfl dL_law_1073 rfl ?_
    refine g_if_ne (t := 1090) (q := 1078) ⟨by omega, by omega⟩ dL_law_1075 rfl rfl (fun c1075 => ?_) (fun c1075 => ?_)
    · refine g_goto (q := 1530) dL_law_1090 rfl ?_
      refine g_drop (al2 := [some (.float (u)), some (.ref (0)), some (.ref (90)), some (.ref (101)), some (.ref (102)), some (.int (iI (5 * (t : Int)))), none, some (.int (iI (z))), none]) 6 rfl ?_
      refine g_drop (al2 := [some (.float (u)), some (.ref (0)), some (.ref (90)), some (.ref (101)), some (.ref (102)), some (.int (iI (5 * (t : Int)))), none, none, none]) 7 rfl ?_
      exact next S' sv' h2 ⟨c1.cells (fun j hj => fr2 j (Or.inl hj)), ⟨kd, m2⟩, ⟨f1, o2⟩, ⟨f9, (fr2 102 (by omega)).trans ((fr1 102 (by decide) (by decide)).trans hd9)⟩⟩
    · have hk : kd = 0 := by omega
      have ev : f1 ((0 : Int)).toNat = (iI z).toInt64 := by rw [ez hk]; exact of1 hk
      refine g_aload_n (q := 1079) rfl rfl dL_law_1078 rfl ?_
      refine g_iconst (q := 1080) dL_law_1079 rfl ?_
      refine g_laload (q := 1081) (by decide) o2 (by decide) (by decide) (by decide) dL_law_1080 rfl ?_
      refine g_iload (q := 1083) rfl dL_law_1081 rfl ?_
      refine g_i2l (q := 1084) dL_law_1083 rfl ?_
      refine g_lcmp (q := 1085) dL_law_1084 rfl ?_
      refine g_ifr_eq (t := 1090) (q := 1088) dL_law_1085 rfl rfl (fun cl => ?_) (fun cl => ?_)
      · refine g_goto (q := 1530) dL_law_1090 rfl ?_
        refine g_drop (al2 := [some (.float (u)), some (.ref (0)), some (.ref (90)), some (.ref (101)), some (.ref (102)), some (.int (iI (5 * (t : Int)))), none, some (.int (iI (z))), none]) 6 rfl ?_
        refine g_drop (al2 := [some (.float (u)), some (.ref (0)), some (.ref (90)), some (.ref (101)), some (.ref (102)), some (.int (iI (5 * (t : Int)))), none, none, none]) 7 rfl ?_
        exact next S' sv' h2 ⟨c1.cells (fun j hj => fr2 j (Or.inl hj)), ⟨kd, m2⟩, ⟨f1, o2⟩, ⟨f9, (fr2 102 (by omega)).trans ((fr1 102 (by decide) (by decide)).trans hd9)⟩⟩
      · exact absurd (by rw [ev]; exact lg_self _) cl
  · omega
set_option maxRecDepth 4000 in
theorem lc_intersect (l : Launch) (L : Nat) (xs : Nat → Int32) (u : UInt32) (post : Post) (t : Nat) (h : EHp) (S : ASt) (sv : List ASt) (hL : L ≤ 2560) (ht : 5 * t + 5 ≤ L) (hW : LWo h S sv) (next : ∀ (S' : ASt) (sv' : List ASt) (h' : EHp), LWo h' S' sv' → G l (scX L xs) mL_law 14 601024 7293034 post (103 + t + 1) (11921 + 6 * t + 6) 1530 [some (.float (u)), some (.ref (0)), some (.ref (90)), some (.ref (101)), some (.ref (102)), some (.int (iI (5 * (t : Int)))), none, none, none] [] NN h') : G l (scX L xs) mL_law 14 601024 7293034 (post) (103 + t) (11921 + 6 * t) 1093 [some (.float (u)), some (.ref (0)), some (.ref (90)), some (.ref (101)), some (.ref (102)), some (.int (iI (5 * (t : Int)))), none, none, none] [] NN h := by
  obtain ⟨hC, ⟨th, hM⟩, ⟨f0, ho⟩, ⟨f9, hd9⟩⟩ := id hW
  obtain ⟨z1, e1, r1⟩ := iI_any (xs (5 * (t : Int) + 1).toNat)
  obtain ⟨z2, e2, r2⟩ := iI_any (xs (5 * (t : Int) + 2).toNat)
  obtain ⟨kd, v0, S', sv', kr, j1, j2⟩ := j_intersect l h S sv z1 z2 r1 r2 hC f0 ho
  refine g_aload_n (q := 1094) rfl rfl dL_law_1093 rfl ?_
  refine g_aload_s (q := 1095) rfl rfl dL_law_1094 rfl ?_
  refine g_iload (q := 1097) rfl dL_law_1095 rfl ?_
  refine g_iconst (q := 1098) dL_law_1097 rfl ?_
  refine g_iadd (q := 1099) dL_law_1098 rfl ?_
  refine g_sld (q := 1100) (by omega) (by omega) (by omega) dL_law_1099 rfl ?_
  rw [e1]
  refine g_aload_s (q := 1101) rfl rfl dL_law_1100 rfl ?_
  refine g_iload (q := 1103) rfl dL_law_1101 rfl ?_
  refine g_iconst (q := 1104) dL_law_1103 rfl ?_
  refine g_iadd (q := 1105) dL_law_1104 rfl ?_
  refine g_sld (q := 1106) (by omega) (by omega) (by omega) dL_law_1105 rfl ?_
  rw [e2]
  refine g_aload_n (q := 1107) rfl rfl dL_law_1106 rfl ?_
  refine g_Sww (q := 1110) (d' := 9) (av := [.ref (0), .int (iI (z1)), .int (iI (z2)), .ref (101)]) (st := []) ksL_137 (j1) rfl (Nat.le_of_ble_eq_true rfl) ⟨(Nat.le_of_ble_eq_true rfl), (Nat.le_of_ble_eq_true rfl)⟩ ⟨by omega, by omega⟩ rfl rfl dL_law_1107 rfl (fun v h1 hp => ?_)
  obtain ⟨rfl, c1, ⟨f1, o1, of1⟩, fr1⟩ := hp
  have hM1 : MRep h1 th S sv := hM.cells (fun j a b => fr1 j a (by omega))
  obtain ⟨w9, pst9, bg9, mn9, lz9, A9, -⟩ := id hM1
  refine g_istore (q := 1112) (al2 := [some (.float (u)), some (.ref (0)), some (.ref (90)), some (.ref (101)), some (.ref (102)), some (.int (iI (5 * (t : Int)))), some (.int (iI (kd))), none, none]) (by decide) rfl rfl dL_law_1110 rfl ?_
  refine g_aload_n (q := 1113) rfl rfl dL_law_1112 rfl ?_
  refine g_aload_s (q := 1114) rfl rfl dL_law_1113 rfl ?_
  refine g_iload (q := 1116) rfl dL_law_1114 rfl ?_
  refine g_iconst (q := 1117) dL_law_1116 rfl ?_
  refine g_iadd (q := 1118) dL_law_1117 rfl ?_
  refine g_sld (q := 1119) (by omega) (by omega) (by omega) dL_law_1118 rfl ?_
  rw [e1]
  refine g_aload_s (q := 1120) rfl rfl dL_law_1119 rfl ?_
  refine g_iload (q := 1122) rfl dL_law_1120 rfl ?_
  refine g_iconst (q := 1123) dL_law_1122 rfl ?_
  refine g_iadd (q := 1124) dL_law_1123 rfl ?_
  refine g_sld (q := 1125) (by omega) (by omega) (by omega) dL_law_1124 rfl ?_
  rw [e2]
  refine g_Vw (q := 1128) (d' := 9) (i := 90) (av := [.int (iI (z1)), .int (iI (z2))]) (st := []) kvL_139 (j2 h1 th hM1) (by decide) A9 rfl (Nat.le_of_ble_eq_true rfl) ⟨(Nat.le_of_ble_eq_true rfl), (Nat.le_of_ble_eq_true rfl)⟩ ⟨by omega, by omega⟩ rfl rfl dL_law_1125 rfl (fun v h2 hp => ?_)
  obtain ⟨⟨z, rfl, ez⟩, m2, fr2⟩ := hp
  obtain ⟨w8, pst8, bg8, mn8, lz8, A8, -⟩ := id m2
  have o2 : h2 101 = _ := (fr2 101 (by omega)).trans o1
  refine g_istore (q := 1130) (al2 := [some (.float (u)), some (.ref (0)), some (.ref (90)), some (.ref (101)), some (.ref (102)), some (.int (iI (5 * (t : Int)))), some (.int (iI (kd))), some (.int (iI (z))), none]) (by decide) rfl rfl dL_law_1128 rfl ?_
  refine g_aload_n (q := 1131) rfl rfl dL_law_1130 rfl ?_
  refine g_Vr (q := 1134) (d' := 0) (i := 90) (av := []) (st := []) (v := .int (iI (kd))) kvL_91 (t_X8_thrown l h2 kd S' sv' m2) (by decide) A8 rfl (Nat.le_of_ble_eq_true rfl) ⟨(Nat.le_of_ble_eq_true rfl), (Nat.le_of_ble_eq_true rfl)⟩ ⟨by omega, by omega⟩ rfl rfl dL_law_1131 rfl ?_
  refine g_iload (q := 1136) rfl dL_law_1134 rfl ?_
  refine g_icmp_eq (t := 1141) (q := 1139) ⟨by omega, by omega⟩ ⟨by omega, by omega⟩ dL_law_1136 rfl rfl (fun c1136 => ?_) (fun c1136 => ?_)
  · refine g_iload (q := 1143) rfl dL_law_1141 rfl ?_
    refine g_if_ne (t := 1158) (q := 1146) ⟨by omega, by omega⟩ dL_law_1143 rfl rfl (fun c1143 => ?_) (fun c1143 => ?_)
    · refine g_goto (q := 1530) dL_law_1158 rfl ?_
      refine g_drop (al2 := [some (.float (u)), some (.ref (0)), some (.ref (90)), some (.ref (101)), some (.ref (102)), some (.int (iI (5 * (t : Int)))), none, some (.int (iI (z))), none]) 6 rfl ?_
      refine g_drop (al2 := [some (.float (u)), some (.ref (0)), some (.ref (90)), some (.ref (101)), some (.ref (102)), some (.int (iI (5 * (t : Int)))), none, none, none]) 7 rfl ?_
      exact next S' sv' h2 ⟨c1.cells (fun j hj => fr2 j (Or.inl hj)), ⟨kd, m2⟩, ⟨f1, o2⟩, ⟨f9, (fr2 102 (by omega)).trans ((fr1 102 (by decide) (by decide)).trans hd9)⟩⟩
    · have hk : kd = 0 := by omega
      have ev : f1 ((0 : Int)).toNat = (iI z).toInt64 := by rw [ez hk]; exact of1 hk
      refine g_aload_n (q := 1147) rfl rfl dL_law_1146 rfl ?_
      refine g_iconst (q := 1148) dL_law_1147 rfl ?_
      refine g_laload (q := 1149) (by decide) o2 (by decide) (by decide) (by decide) dL_law_1148 rfl ?_
      refine g_iload (q := 1151) rfl dL_law_1149 rfl ?_
      refine g_i2l (q := 1152) dL_law_1151 rfl ?_
      refine g_lcmp (q := 1153) dL_law_1152 rfl ?_
      refine g_ifr_eq (t := 1158) (q := 1156) dL_law_1153 rfl rfl (fun cl => ?_) (fun cl => ?_)
      · refine g_goto (q := 1530) dL_law_1158 rfl ?_
        refine g_drop (al2 := [some (.float (u)), some (.ref (0)), some (.ref (90)), some (.ref (101)), some (.ref (102)), some (.int (iI (5 * (t : Int)))), none, some (.int (iI (z))), none]) 6 rfl ?_
        refine g_drop (al2 := [some (.float (u)), some (.ref (0)), some (.ref (90)), some (.ref (101)), some (.ref (102)), some (.int (iI (5 * (t : Int)))), none, none, none]) 7 rfl ?_
        exact next S' sv' h2 ⟨c1.cells (fun j hj => fr2 j (Or.inl hj)), ⟨kd, m2⟩, ⟨f1, o2⟩, ⟨f9, (fr2 102 (by omega)).trans ((fr1 102 (by decide) (by decide)).trans hd9)⟩⟩
      · exact absurd (by rw [ev]; exact lg_self _) cl
  · omega
set_option maxRecDepth 4000 in
theorem lc_unite (l : Launch) (L : Nat) (xs : Nat → Int32) (u : UInt32) (post : Post) (t : Nat) (h : EHp) (S : ASt) (sv : List ASt) (hL : L ≤ 2560) (ht : 5 * t + 5 ≤ L) (hW : LWo h S sv) (next : ∀ (S' : ASt) (sv' : List ASt) (h' : EHp), LWo h' S' sv' → G l (scX L xs) mL_law 14 601024 7293034 post (103 + t + 1) (11921 + 6 * t + 6) 1530 [some (.float (u)), some (.ref (0)), some (.ref (90)), some (.ref (101)), some (.ref (102)), some (.int (iI (5 * (t : Int)))), none, none, none] [] NN h') : G l (scX L xs) mL_law 14 601024 7293034 (post) (103 + t) (11921 + 6 * t) 1161 [some (.float (u)), some (.ref (0)), some (.ref (90)), some (.ref (101)), some (.ref (102)), some (.int (iI (5 * (t : Int)))), none, none, none] [] NN h := by
  obtain ⟨hC, ⟨th, hM⟩, ⟨f0, ho⟩, ⟨f9, hd9⟩⟩ := id hW
  obtain ⟨z1, e1, r1⟩ := iI_any (xs (5 * (t : Int) + 1).toNat)
  obtain ⟨z2, e2, r2⟩ := iI_any (xs (5 * (t : Int) + 2).toNat)
  obtain ⟨z3, e3, r3⟩ := iI_any (xs (5 * (t : Int) + 3).toNat)
  obtain ⟨kd, v0, S', sv', kr, j1, j2⟩ := j_unite l h S sv z1 z2 z3 r1 r2 r3 hC f0 ho
  refine g_aload_n (q := 1162) rfl rfl dL_law_1161 rfl ?_
  refine g_aload_s (q := 1163) rfl rfl dL_law_1162 rfl ?_
  refine g_iload (q := 1165) rfl dL_law_1163 rfl ?_
  refine g_iconst (q := 1166) dL_law_1165 rfl ?_
  refine g_iadd (q := 1167) dL_law_1166 rfl ?_
  refine g_sld (q := 1168) (by omega) (by omega) (by omega) dL_law_1167 rfl ?_
  rw [e1]
  refine g_aload_s (q := 1169) rfl rfl dL_law_1168 rfl ?_
  refine g_iload (q := 1171) rfl dL_law_1169 rfl ?_
  refine g_iconst (q := 1172) dL_law_1171 rfl ?_
  refine g_iadd (q := 1173) dL_law_1172 rfl ?_
  refine g_sld (q := 1174) (by omega) (by omega) (by omega) dL_law_1173 rfl ?_
  rw [e2]
  refine g_aload_s (q := 1175) rfl rfl dL_law_1174 rfl ?_
  refine g_iload (q := 1177) rfl dL_law_1175 rfl ?_
  refine g_iconst (q := 1178) dL_law_1177 rfl ?_
  refine g_iadd (q := 1179) dL_law_1178 rfl ?_
  refine g_sld (q := 1180) (by omega) (by omega) (by omega) dL_law_1179 rfl ?_
  rw [e3]
  refine g_aload_n (q := 1181) rfl rfl dL_law_1180 rfl ?_
  refine g_Sww (q := 1184) (d' := 10) (av := [.ref (0), .int (iI (z1)), .int (iI (z2)), .int (iI (z3)), .ref (101)]) (st := []) ksL_140 (j1) rfl (Nat.le_of_ble_eq_true rfl) ⟨(Nat.le_of_ble_eq_true rfl), (Nat.le_of_ble_eq_true rfl)⟩ ⟨by omega, by omega⟩ rfl rfl dL_law_1181 rfl (fun v h1 hp => ?_)
  obtain ⟨rfl, c1, ⟨f1, o1, of1⟩, fr1⟩ := hp
  have hM1 : MRep h1 th S sv := hM.cells (fun j a b => fr1 j a (by omega))
  obtain ⟨w9, pst9, bg9, mn9, lz9, A9, -⟩ := id hM1
  refine g_istore (q := 1186) (al2 := [some (.float (u)), some (.ref (0)), some (.ref (90)), some (.ref (101)), some (.ref (102)), some (.int (iI (5 * (t : Int)))), some (.int (iI (kd))), none, none]) (by decide) rfl rfl dL_law_1184 rfl ?_
  refine g_aload_n (q := 1187) rfl rfl dL_law_1186 rfl ?_
  refine g_aload_s (q := 1188) rfl rfl dL_law_1187 rfl ?_
  refine g_iload (q := 1190) rfl dL_law_1188 rfl ?_
  refine g_iconst (q := 1191) dL_law_1190 rfl ?_
  refine g_iadd (q := 1192) dL_law_1191 rfl ?_
  refine g_sld (q := 1193) (by omega) (by omega) (by omega) dL_law_1192 rfl ?_
  rw [e1]
  refine g_aload_s (q := 1194) rfl rfl dL_law_1193 rfl ?_
  refine g_iload (q := 1196) rfl dL_law_1194 rfl ?_
  refine g_iconst (q := 1197) dL_law_1196 rfl ?_
  refine g_iadd (q := 1198) dL_law_1197 rfl ?_
  refine g_sld (q := 1199) (by omega) (by omega) (by omega) dL_law_1198 rfl ?_
  rw [e2]
  refine g_aload_s (q := 1200) rfl rfl dL_law_1199 rfl ?_
  refine g_iload (q := 1202) rfl dL_law_1200 rfl ?_
  refine g_iconst (q := 1203) dL_law_1202 rfl ?_
  refine g_iadd (q := 1204) dL_law_1203 rfl ?_
  refine g_sld (q := 1205) (by omega) (by omega) (by omega) dL_law_1204 rfl ?_
  rw [e3]
  refine g_Vw (q := 1208) (d' := 3) (i := 90) (av := [.int (iI (z1)), .int (iI (z2)), .int (iI (z3))]) (st := []) kvL_142 (j2 h1 th hM1) (by decide) A9 rfl (Nat.le_of_ble_eq_true rfl) ⟨(Nat.le_of_ble_eq_true rfl), (Nat.le_of_ble_eq_true rfl)⟩ ⟨by omega, by omega⟩ rfl rfl dL_law_1205 rfl (fun v h2 hp => ?_)
  obtain ⟨⟨z, rfl, ez⟩, m2, fr2⟩ := hp
  obtain ⟨w8, pst8, bg8, mn8, lz8, A8, -⟩ := id m2
  have o2 : h2 101 = _ := (fr2 101 (by omega)).trans o1
  refine g_istore (q := 1210) (al2 := [some (.float (u)), some (.ref (0)), some (.ref (90)), some (.ref (101)), some (.ref (102)), some (.int (iI (5 * (t : Int)))), some (.int (iI (kd))), some (.int (iI (z))), none]) (by decide) rfl rfl dL_law_1208 rfl ?_
  refine g_aload_n (q := 1211) rfl rfl dL_law_1210 rfl ?_
  refine g_Vr (q := 1214) (d' := 0) (i := 90) (av := []) (st := []) (v := .int (iI (kd))) kvL_91 (t_X8_thrown l h2 kd S' sv' m2) (by decide) A8 rfl (Nat.le_of_ble_eq_true rfl) ⟨(Nat.le_of_ble_eq_true rfl), (Nat.le_of_ble_eq_true rfl)⟩ ⟨by omega, by omega⟩ rfl rfl dL_law_1211 rfl ?_
  refine g_iload (q := 1216) rfl dL_law_1214 rfl ?_
  refine g_icmp_eq (t := 1221) (q := 1219) ⟨by omega, by omega⟩ ⟨by omega, by omega⟩ dL_law_1216 rfl rfl (fun c1216 => ?_) (fun c1216 => ?_)
  · refine g_iload (q := 1223) rfl dL_law_1221 rfl ?_
    refine g_if_ne (t := 1238) (q := 1226) ⟨by omega, by omega⟩ dL_law_1223 rfl rfl (fun c1223 => ?_) (fun c1223 => ?_)
    · refine g_goto (q := 1530) dL_law_1238 rfl ?_
      refine g_drop (al2 := [some (.float (u)), some (.ref (0)), some (.ref (90)), some (.ref (101)), some (.ref (102)), some (.int (iI (5 * (t : Int)))), none, some (.int (iI (z))), none]) 6 rfl ?_
      refine g_drop (al2 := [some (.float (u)), some (.ref (0)), some (.ref (90)), some (.ref (101)), some (.ref (102)), some (.int (iI (5 * (t : Int)))), none, none, none]) 7 rfl ?_
      exact next S' sv' h2 ⟨c1.cells (fun j hj => fr2 j (Or.inl hj)), ⟨kd, m2⟩, ⟨f1, o2⟩, ⟨f9, (fr2 102 (by omega)).trans ((fr1 102 (by decide) (by decide)).trans hd9)⟩⟩
    · have hk : kd = 0 := by omega
      have ev : f1 ((0 : Int)).toNat = (iI z).toInt64 := by rw [ez hk]; exact of1 hk
      refine g_aload_n (q := 1227) rfl rfl dL_law_1226 rfl ?_
      refine g_iconst (q := 1228) dL_law_1227 rfl ?_
      refine g_laload (q := 1229) (by decide) o2 (by decide) (by decide) (by decide) dL_law_1228 rfl ?_
      refine g_iload (q := 1231) rfl dL_law_1229 rfl ?_
      refine g_i2l (q := 1232) dL_law_1231 rfl ?_
      refine g_lcmp (q := 1233) dL_law_1232 rfl ?_
      refine g_ifr_eq (t := 1238) (q := 1236) dL_law_1233 rfl rfl (fun cl => ?_) (fun cl => ?_)
      · refine g_goto (q := 1530) dL_law_1238 rfl ?_
        refine g_drop (al2 := [some (.float (u)), some (.ref (0)), some (.ref (90)), some (.ref (101)), some (.ref (102)), some (.int (iI (5 * (t : Int)))), none, some (.int (iI (z))), none]) 6 rfl ?_
        refine g_drop (al2 := [some (.float (u)), some (.ref (0)), some (.ref (90)), some (.ref (101)), some (.ref (102)), some (.int (iI (5 * (t : Int)))), none, none, none]) 7 rfl ?_
        exact next S' sv' h2 ⟨c1.cells (fun j hj => fr2 j (Or.inl hj)), ⟨kd, m2⟩, ⟨f1, o2⟩, ⟨f9, (fr2 102 (by omega)).trans ((fr1 102 (by decide) (by decide)).trans hd9)⟩⟩
      · exact absurd (by rw [ev]; exact lg_self _) cl
  · omega
set_option maxRecDepth 4000 in
theorem lc_subtract (l : Launch) (L : Nat) (xs : Nat → Int32) (u : UInt32) (post : Post) (t : Nat) (h : EHp) (S : ASt) (sv : List ASt) (hL : L ≤ 2560) (ht : 5 * t + 5 ≤ L) (hW : LWo h S sv) (next : ∀ (S' : ASt) (sv' : List ASt) (h' : EHp), LWo h' S' sv' → G l (scX L xs) mL_law 14 601024 7293034 post (103 + t + 1) (11921 + 6 * t + 6) 1530 [some (.float (u)), some (.ref (0)), some (.ref (90)), some (.ref (101)), some (.ref (102)), some (.int (iI (5 * (t : Int)))), none, none, none] [] NN h') : G l (scX L xs) mL_law 14 601024 7293034 (post) (103 + t) (11921 + 6 * t) 1241 [some (.float (u)), some (.ref (0)), some (.ref (90)), some (.ref (101)), some (.ref (102)), some (.int (iI (5 * (t : Int)))), none, none, none] [] NN h := by
  obtain ⟨hC, ⟨th, hM⟩, ⟨f0, ho⟩, ⟨f9, hd9⟩⟩ := id hW
  obtain ⟨z1, e1, r1⟩ := iI_any (xs (5 * (t : Int) + 1).toNat)
  obtain ⟨z2, e2, r2⟩ := iI_any (xs (5 * (t : Int) + 2).toNat)
  obtain ⟨z3, e3, r3⟩ := iI_any (xs (5 * (t : Int) + 3).toNat)
  obtain ⟨kd, v0, S', sv', kr, j1, j2⟩ := j_subtract l h S sv z1 z2 z3 r1 r2 r3 hC f0 ho
  refine g_aload_n (q := 1242) rfl rfl dL_law_1241 rfl ?_
  refine g_aload_s (q := 1243) rfl rfl dL_law_1242 rfl ?_
  refine g_iload (q := 1245) rfl dL_law_1243 rfl ?_
  refine g_iconst (q := 1246) dL_law_1245 rfl ?_
  refine g_iadd (q := 1247) dL_law_1246 rfl ?_
  refine g_sld (q := 1248) (by omega) (by omega) (by omega) dL_law_1247 rfl ?_
  rw [e1]
  refine g_aload_s (q := 1249) rfl rfl dL_law_1248 rfl ?_
  refine g_iload (q := 1251) rfl dL_law_1249 rfl ?_
  refine g_iconst (q := 1252) dL_law_1251 rfl ?_
  refine g_iadd (q := 1253) dL_law_1252 rfl ?_
  refine g_sld (q := 1254) (by omega) (by omega) (by omega) dL_law_1253 rfl ?_
  rw [e2]
  refine g_aload_s (q := 1255) rfl rfl dL_law_1254 rfl ?_
  refine g_iload (q := 1257) rfl dL_law_1255 rfl ?_
  refine g_iconst (q := 1258) dL_law_1257 rfl ?_
  refine g_iadd (q := 1259) dL_law_1258 rfl ?_
  refine g_sld (q := 1260) (by omega) (by omega) (by omega) dL_law_1259 rfl ?_
  rw [e3]
  refine g_aload_n (q := 1261) rfl rfl dL_law_1260 rfl ?_
  refine g_Sww (q := 1264) (d' := 10) (av := [.ref (0), .int (iI (z1)), .int (iI (z2)), .int (iI (z3)), .ref (101)]) (st := []) ksL_143 (j1) rfl (Nat.le_of_ble_eq_true rfl) ⟨(Nat.le_of_ble_eq_true rfl), (Nat.le_of_ble_eq_true rfl)⟩ ⟨by omega, by omega⟩ rfl rfl dL_law_1261 rfl (fun v h1 hp => ?_)
  obtain ⟨rfl, c1, ⟨f1, o1, of1⟩, fr1⟩ := hp
  have hM1 : MRep h1 th S sv := hM.cells (fun j a b => fr1 j a (by omega))
  obtain ⟨w9, pst9, bg9, mn9, lz9, A9, -⟩ := id hM1
  refine g_istore (q := 1266) (al2 := [some (.float (u)), some (.ref (0)), some (.ref (90)), some (.ref (101)), some (.ref (102)), some (.int (iI (5 * (t : Int)))), some (.int (iI (kd))), none, none]) (by decide) rfl rfl dL_law_1264 rfl ?_
  refine g_aload_n (q := 1267) rfl rfl dL_law_1266 rfl ?_
  refine g_aload_s (q := 1268) rfl rfl dL_law_1267 rfl ?_
  refine g_iload (q := 1270) rfl dL_law_1268 rfl ?_
  refine g_iconst (q := 1271) dL_law_1270 rfl ?_
  refine g_iadd (q := 1272) dL_law_1271 rfl ?_
  refine g_sld (q := 1273) (by omega) (by omega) (by omega) dL_law_1272 rfl ?_
  rw [e1]
  refine g_aload_s (q := 1274) rfl rfl dL_law_1273 rfl ?_
  refine g_iload (q := 1276) rfl dL_law_1274 rfl ?_
  refine g_iconst (q := 1277) dL_law_1276 rfl ?_
  refine g_iadd (q := 1278) dL_law_1277 rfl ?_
  refine g_sld (q := 1279) (by omega) (by omega) (by omega) dL_law_1278 rfl ?_
  rw [e2]
  refine g_aload_s (q := 1280) rfl rfl dL_law_1279 rfl ?_
  refine g_iload (q := 1282) rfl dL_law_1280 rfl ?_
  refine g_iconst (q := 1283) dL_law_1282 rfl ?_
  refine g_iadd (q := 1284) dL_law_1283 rfl ?_
  refine g_sld (q := 1285) (by omega) (by omega) (by omega) dL_law_1284 rfl ?_
  rw [e3]
  refine g_Vw (q := 1288) (d' := 3) (i := 90) (av := [.int (iI (z1)), .int (iI (z2)), .int (iI (z3))]) (st := []) kvL_145 (j2 h1 th hM1) (by decide) A9 rfl (Nat.le_of_ble_eq_true rfl) ⟨(Nat.le_of_ble_eq_true rfl), (Nat.le_of_ble_eq_true rfl)⟩ ⟨by omega, by omega⟩ rfl rfl dL_law_1285 rfl (fun v h2 hp => ?_)
  obtain ⟨⟨z, rfl, ez⟩, m2, fr2⟩ := hp
  obtain ⟨w8, pst8, bg8, mn8, lz8, A8, -⟩ := id m2
  have o2 : h2 101 = _ := (fr2 101 (by omega)).trans o1
  refine g_istore (q := 1290) (al2 := [some (.float (u)), some (.ref (0)), some (.ref (90)), some (.ref (101)), some (.ref (102)), some (.int (iI (5 * (t : Int)))), some (.int (iI (kd))), some (.int (iI (z))), none]) (by decide) rfl rfl dL_law_1288 rfl ?_
  refine g_aload_n (q := 1291) rfl rfl dL_law_1290 rfl ?_
  refine g_Vr (q := 1294) (d' := 0) (i := 90) (av := []) (st := []) (v := .int (iI (kd))) kvL_91 (t_X8_thrown l h2 kd S' sv' m2) (by decide) A8 rfl (Nat.le_of_ble_eq_true rfl) ⟨(Nat.le_of_ble_eq_true rfl), (Nat.le_of_ble_eq_true rfl)⟩ ⟨by omega, by omega⟩ rfl rfl dL_law_1291 rfl ?_
  refine g_iload (q := 1296) rfl dL_law_1294 rfl ?_
  refine g_icmp_eq (t := 1301) (q := 1299) ⟨by omega, by omega⟩ ⟨by omega, by omega⟩ dL_law_1296 rfl rfl (fun c1296 => ?_) (fun c1296 => ?_)
  · refine g_iload (q := 1303) rfl dL_law_1301 rfl ?_
    refine g_if_ne (t := 1318) (q := 1306) ⟨by omega, by omega⟩ dL_law_1303 rfl rfl (fun c1303 => ?_) (fun c1303 => ?_)
    · refine g_goto (q := 1530) dL_law_1318 rfl ?_
      refine g_drop (al2 := [some (.float (u)), some (.ref (0)), some (.ref (90)), some (.ref (101)), some (.ref (102)), some (.int (iI (5 * (t : Int)))), none, some (.int (iI (z))), none]) 6 rfl ?_
      refine g_drop (al2 := [some (.float (u)), some (.ref (0)), some (.ref (90)), some (.ref (101)), some (.ref (102)), some (.int (iI (5 * (t : Int)))), none, none, none]) 7 rfl ?_
      exact next S' sv' h2 ⟨c1.cells (fun j hj => fr2 j (Or.inl hj)), ⟨kd, m2⟩, ⟨f1, o2⟩, ⟨f9, (fr2 102 (by omega)).trans ((fr1 102 (by decide) (by decide)).trans hd9)⟩⟩
    · have hk : kd = 0 := by omega
      have ev : f1 ((0 : Int)).toNat = (iI z).toInt64 := by rw [ez hk]; exact of1 hk
      refine g_aload_n (q := 1307) rfl rfl dL_law_1306 rfl ?_
      refine g_iconst (q := 1308) dL_law_1307 rfl ?_
      refine g_laload (q := 1309) (by decide) o2 (by decide) (by decide) (by decide) dL_law_1308 rfl ?_
      refine g_iload (q := 1311) rfl dL_law_1309 rfl ?_
      refine g_i2l (q := 1312) dL_law_1311 rfl ?_
      refine g_lcmp (q := 1313) dL_law_1312 rfl ?_
      refine g_ifr_eq (t := 1318) (q := 1316) dL_law_1313 rfl rfl (fun cl => ?_) (fun cl => ?_)
      · refine g_goto (q := 1530) dL_law_1318 rfl ?_
        refine g_drop (al2 := [some (.float (u)), some (.ref (0)), some (.ref (90)), some (.ref (101)), some (.ref (102)), some (.int (iI (5 * (t : Int)))), none, some (.int (iI (z))), none]) 6 rfl ?_
        refine g_drop (al2 := [some (.float (u)), some (.ref (0)), some (.ref (90)), some (.ref (101)), some (.ref (102)), some (.int (iI (5 * (t : Int)))), none, none, none]) 7 rfl ?_
        exact next S' sv' h2 ⟨c1.cells (fun j hj => fr2 j (Or.inl hj)), ⟨kd, m2⟩, ⟨f1, o2⟩, ⟨f9, (fr2 102 (by omega)).trans ((fr1 102 (by decide) (by decide)).trans hd9)⟩⟩
      · exact absurd (by rw [ev]; exact lg_self _) cl
  · omega
set_option maxRecDepth 4000 in
theorem lc_reads (l : Launch) (L : Nat) (xs : Nat → Int32) (u : UInt32) (post : Post) (t : Nat) (h : EHp) (S : ASt) (sv : List ASt) (hL : L ≤ 2560) (ht : 5 * t + 5 ≤ L) (hW : LWo h S sv) (next : ∀ (S' : ASt) (sv' : List ASt) (h' : EHp), LWo h' S' sv' → G l (scX L xs) mL_law 14 601024 7293034 post (103 + t + 1) (11921 + 6 * t + 6) 1530 [some (.float (u)), some (.ref (0)), some (.ref (90)), some (.ref (101)), some (.ref (102)), some (.int (iI (5 * (t : Int)))), none, none, none] [] NN h') : G l (scX L xs) mL_law 14 601024 7293034 (post) (103 + t) (11921 + 6 * t) 1321 [some (.float (u)), some (.ref (0)), some (.ref (90)), some (.ref (101)), some (.ref (102)), some (.int (iI (5 * (t : Int)))), none, none, none] [] NN h := by
  obtain ⟨hC, ⟨th, hM⟩, ⟨f0, ho⟩, ⟨f9, hd9⟩⟩ := id hW
  obtain ⟨g0, -⟩ := id hC
  obtain ⟨w9, pst9, bg9, mn9, lz9, A9, -⟩ := id hM
  refine g_aload_n (q := 1322) rfl rfl dL_law_1321 rfl ?_
  refine g_Vr (q := 1325) (d' := 0) (i := 0) (av := []) (st := []) (v := .int (iI (S.2.2.2.1))) kvL_146 (t_X7_reads l h S sv hC) (by decide) g0 rfl (Nat.le_of_ble_eq_true rfl) ⟨(Nat.le_of_ble_eq_true rfl), (Nat.le_of_ble_eq_true rfl)⟩ ⟨by omega, by omega⟩ rfl rfl dL_law_1322 rfl ?_
  refine g_aload_n (q := 1326) rfl rfl dL_law_1325 rfl ?_
  refine g_Vw (q := 1329) (d' := 0) (i := 90) (av := []) (st := [.int (iI (S.2.2.2.1))]) kvL_149 (t_X8_reads l h th S sv hM) (by decide) A9 rfl (Nat.le_of_ble_eq_true rfl) ⟨(Nat.le_of_ble_eq_true rfl), (Nat.le_of_ble_eq_true rfl)⟩ ⟨by omega, by omega⟩ rfl rfl dL_law_1326 rfl (fun v h2 hp => ?_)
  obtain ⟨rfl, m2, fr2⟩ := hp
  refine g_icmp_same (t := 1530) (q := 1332) dL_law_1329 rfl rfl ?_
  refine g_wide (k' := (103 + t + 1)) (n' := (11921 + 6 * t + 6)) (by omega) (by omega) ?_
  exact next S sv h2 ⟨hC.cells (fun j hj => fr2 j (Or.inl hj)), ⟨0, m2⟩, ⟨f0, (fr2 101 (by omega)).trans ho⟩, ⟨f9, (fr2 102 (by omega)).trans hd9⟩⟩
set_option maxRecDepth 4000 in
theorem lc_hits (l : Launch) (L : Nat) (xs : Nat → Int32) (u : UInt32) (post : Post) (t : Nat) (h : EHp) (S : ASt) (sv : List ASt) (hL : L ≤ 2560) (ht : 5 * t + 5 ≤ L) (hW : LWo h S sv) (next : ∀ (S' : ASt) (sv' : List ASt) (h' : EHp), LWo h' S' sv' → G l (scX L xs) mL_law 14 601024 7293034 post (103 + t + 1) (11921 + 6 * t + 6) 1530 [some (.float (u)), some (.ref (0)), some (.ref (90)), some (.ref (101)), some (.ref (102)), some (.int (iI (5 * (t : Int)))), none, none, none] [] NN h') : G l (scX L xs) mL_law 14 601024 7293034 (post) (103 + t) (11921 + 6 * t) 1334 [some (.float (u)), some (.ref (0)), some (.ref (90)), some (.ref (101)), some (.ref (102)), some (.int (iI (5 * (t : Int)))), none, none, none] [] NN h := by
  obtain ⟨hC, ⟨th, hM⟩, ⟨f0, ho⟩, ⟨f9, hd9⟩⟩ := id hW
  obtain ⟨g0, -⟩ := id hC
  obtain ⟨w9, pst9, bg9, mn9, lz9, A9, -⟩ := id hM
  refine g_aload_n (q := 1335) rfl rfl dL_law_1334 rfl ?_
  refine g_Vr (q := 1338) (d' := 0) (i := 0) (av := []) (st := []) (v := .int (iI (S.2.2.2.2))) kvL_150 (t_X7_hits l h S sv hC) (by decide) g0 rfl (Nat.le_of_ble_eq_true rfl) ⟨(Nat.le_of_ble_eq_true rfl), (Nat.le_of_ble_eq_true rfl)⟩ ⟨by omega, by omega⟩ rfl rfl dL_law_1335 rfl ?_
  refine g_aload_n (q := 1339) rfl rfl dL_law_1338 rfl ?_
  refine g_Vw (q := 1342) (d' := 0) (i := 90) (av := []) (st := [.int (iI (S.2.2.2.2))]) kvL_153 (t_X8_hits l h th S sv hM) (by decide) A9 rfl (Nat.le_of_ble_eq_true rfl) ⟨(Nat.le_of_ble_eq_true rfl), (Nat.le_of_ble_eq_true rfl)⟩ ⟨by omega, by omega⟩ rfl rfl dL_law_1339 rfl (fun v h2 hp => ?_)
  obtain ⟨rfl, m2, fr2⟩ := hp
  refine g_icmp_same (t := 1530) (q := 1345) dL_law_1342 rfl rfl ?_
  refine g_wide (k' := (103 + t + 1)) (n' := (11921 + 6 * t + 6)) (by omega) (by omega) ?_
  exact next S sv h2 ⟨hC.cells (fun j hj => fr2 j (Or.inl hj)), ⟨0, m2⟩, ⟨f0, (fr2 101 (by omega)).trans ho⟩, ⟨f9, (fr2 102 (by omega)).trans hd9⟩⟩
set_option maxRecDepth 4000 in
theorem lc_setCapacity (l : Launch) (L : Nat) (xs : Nat → Int32) (u : UInt32) (post : Post) (t : Nat) (h : EHp) (S : ASt) (sv : List ASt) (hL : L ≤ 2560) (ht : 5 * t + 5 ≤ L) (hW : LWo h S sv) (next : ∀ (S' : ASt) (sv' : List ASt) (h' : EHp), LWo h' S' sv' → G l (scX L xs) mL_law 14 601024 7293034 post (103 + t + 1) (11921 + 6 * t + 6) 1530 [some (.float (u)), some (.ref (0)), some (.ref (90)), some (.ref (101)), some (.ref (102)), some (.int (iI (5 * (t : Int)))), none, none, none] [] NN h') : G l (scX L xs) mL_law 14 601024 7293034 (post) (103 + t) (11921 + 6 * t) 1347 [some (.float (u)), some (.ref (0)), some (.ref (90)), some (.ref (101)), some (.ref (102)), some (.int (iI (5 * (t : Int)))), none, none, none] [] NN h := by
  obtain ⟨hC, ⟨th, hM⟩, ⟨f0, ho⟩, ⟨f9, hd9⟩⟩ := id hW
  obtain ⟨z1, e1, r1⟩ := iI_any (xs (5 * (t : Int) + 1).toNat)
  obtain ⟨kd, v0, S', sv', kr, j1, j2⟩ := j_setCapacity l h S sv z1 r1 hC f0 ho
  refine g_aload_n (q := 1348) rfl rfl dL_law_1347 rfl ?_
  refine g_aload_s (q := 1349) rfl rfl dL_law_1348 rfl ?_
  refine g_iload (q := 1351) rfl dL_law_1349 rfl ?_
  refine g_iconst (q := 1352) dL_law_1351 rfl ?_
  refine g_iadd (q := 1353) dL_law_1352 rfl ?_
  refine g_sld (q := 1354) (by omega) (by omega) (by omega) dL_law_1353 rfl ?_
  rw [e1]
  refine g_aload_n (q := 1355) rfl rfl dL_law_1354 rfl ?_
  refine g_Sww (q := 1358) (d' := 8) (av := [.ref (0), .int (iI (z1)), .ref (101)]) (st := []) ksL_154 (j1) rfl (Nat.le_of_ble_eq_true rfl) ⟨(Nat.le_of_ble_eq_true rfl), (Nat.le_of_ble_eq_true rfl)⟩ ⟨by omega, by omega⟩ rfl rfl dL_law_1355 rfl (fun v h1 hp => ?_)
  obtain ⟨rfl, c1, ⟨f1, o1, of1⟩, fr1⟩ := hp
  have hM1 : MRep h1 th S sv := hM.cells (fun j a b => fr1 j a (by omega))
  obtain ⟨w9, pst9, bg9, mn9, lz9, A9, -⟩ := id hM1
  refine g_istore (q := 1360) (al2 := [some (.float (u)), some (.ref (0)), some (.ref (90)), some (.ref (101)), some (.ref (102)), some (.int (iI (5 * (t : Int)))), some (.int (iI (kd))), none, none]) (by decide) rfl rfl dL_law_1358 rfl ?_
  refine g_aload_n (q := 1361) rfl rfl dL_law_1360 rfl ?_
  refine g_aload_s (q := 1362) rfl rfl dL_law_1361 rfl ?_
  refine g_iload (q := 1364) rfl dL_law_1362 rfl ?_
  refine g_iconst (q := 1365) dL_law_1364 rfl ?_
  refine g_iadd (q := 1366) dL_law_1365 rfl ?_
  refine g_sld (q := 1367) (by omega) (by omega) (by omega) dL_law_1366 rfl ?_
  rw [e1]
  refine g_Vw (q := 1370) (d' := 1) (i := 90) (av := [.int (iI (z1))]) (st := []) kvL_156 (j2 h1 th hM1) (by decide) A9 rfl (Nat.le_of_ble_eq_true rfl) ⟨(Nat.le_of_ble_eq_true rfl), (Nat.le_of_ble_eq_true rfl)⟩ ⟨by omega, by omega⟩ rfl rfl dL_law_1367 rfl (fun v h2 hp => ?_)
  obtain ⟨⟨z, rfl, ez⟩, m2, fr2⟩ := hp
  obtain ⟨w8, pst8, bg8, mn8, lz8, A8, -⟩ := id m2
  have o2 : h2 101 = _ := (fr2 101 (by omega)).trans o1
  refine g_istore (q := 1372) (al2 := [some (.float (u)), some (.ref (0)), some (.ref (90)), some (.ref (101)), some (.ref (102)), some (.int (iI (5 * (t : Int)))), some (.int (iI (kd))), some (.int (iI (z))), none]) (by decide) rfl rfl dL_law_1370 rfl ?_
  refine g_aload_n (q := 1373) rfl rfl dL_law_1372 rfl ?_
  refine g_Vr (q := 1376) (d' := 0) (i := 90) (av := []) (st := []) (v := .int (iI (kd))) kvL_91 (t_X8_thrown l h2 kd S' sv' m2) (by decide) A8 rfl (Nat.le_of_ble_eq_true rfl) ⟨(Nat.le_of_ble_eq_true rfl), (Nat.le_of_ble_eq_true rfl)⟩ ⟨by omega, by omega⟩ rfl rfl dL_law_1373 rfl ?_
  refine g_iload (q := 1378) rfl dL_law_1376 rfl ?_
  refine g_icmp_eq (t := 1383) (q := 1381) ⟨by omega, by omega⟩ ⟨by omega, by omega⟩ dL_law_1378 rfl rfl (fun c1378 => ?_) (fun c1378 => ?_)
  · refine g_iload (q := 1385) rfl dL_law_1383 rfl ?_
    refine g_if_ne (t := 1400) (q := 1388) ⟨by omega, by omega⟩ dL_law_1385 rfl rfl (fun c1385 => ?_) (fun c1385 => ?_)
    · refine g_goto (q := 1530) dL_law_1400 rfl ?_
      refine g_drop (al2 := [some (.float (u)), some (.ref (0)), some (.ref (90)), some (.ref (101)), some (.ref (102)), some (.int (iI (5 * (t : Int)))), none, some (.int (iI (z))), none]) 6 rfl ?_
      refine g_drop (al2 := [some (.float (u)), some (.ref (0)), some (.ref (90)), some (.ref (101)), some (.ref (102)), some (.int (iI (5 * (t : Int)))), none, none, none]) 7 rfl ?_
      exact next S' sv' h2 ⟨c1.cells (fun j hj => fr2 j (Or.inl hj)), ⟨kd, m2⟩, ⟨f1, o2⟩, ⟨f9, (fr2 102 (by omega)).trans ((fr1 102 (by decide) (by decide)).trans hd9)⟩⟩
    · have hk : kd = 0 := by omega
      have ev : f1 ((0 : Int)).toNat = (iI z).toInt64 := by rw [ez hk]; exact of1 hk
      refine g_aload_n (q := 1389) rfl rfl dL_law_1388 rfl ?_
      refine g_iconst (q := 1390) dL_law_1389 rfl ?_
      refine g_laload (q := 1391) (by decide) o2 (by decide) (by decide) (by decide) dL_law_1390 rfl ?_
      refine g_iload (q := 1393) rfl dL_law_1391 rfl ?_
      refine g_i2l (q := 1394) dL_law_1393 rfl ?_
      refine g_lcmp (q := 1395) dL_law_1394 rfl ?_
      refine g_ifr_eq (t := 1400) (q := 1398) dL_law_1395 rfl rfl (fun cl => ?_) (fun cl => ?_)
      · refine g_goto (q := 1530) dL_law_1400 rfl ?_
        refine g_drop (al2 := [some (.float (u)), some (.ref (0)), some (.ref (90)), some (.ref (101)), some (.ref (102)), some (.int (iI (5 * (t : Int)))), none, some (.int (iI (z))), none]) 6 rfl ?_
        refine g_drop (al2 := [some (.float (u)), some (.ref (0)), some (.ref (90)), some (.ref (101)), some (.ref (102)), some (.int (iI (5 * (t : Int)))), none, none, none]) 7 rfl ?_
        exact next S' sv' h2 ⟨c1.cells (fun j hj => fr2 j (Or.inl hj)), ⟨kd, m2⟩, ⟨f1, o2⟩, ⟨f9, (fr2 102 (by omega)).trans ((fr1 102 (by decide) (by decide)).trans hd9)⟩⟩
      · exact absurd (by rw [ev]; exact lg_self _) cl
  · omega
set_option maxRecDepth 4000 in
theorem lc_cached (l : Launch) (L : Nat) (xs : Nat → Int32) (u : UInt32) (post : Post) (t : Nat) (h : EHp) (S : ASt) (sv : List ASt) (hL : L ≤ 2560) (ht : 5 * t + 5 ≤ L) (hW : LWo h S sv) (next : ∀ (S' : ASt) (sv' : List ASt) (h' : EHp), LWo h' S' sv' → G l (scX L xs) mL_law 14 601024 7293034 post (103 + t + 1) (11921 + 6 * t + 6) 1530 [some (.float (u)), some (.ref (0)), some (.ref (90)), some (.ref (101)), some (.ref (102)), some (.int (iI (5 * (t : Int)))), none, none, none] [] NN h') : G l (scX L xs) mL_law 14 601024 7293034 (post) (103 + t) (11921 + 6 * t) 1403 [some (.float (u)), some (.ref (0)), some (.ref (90)), some (.ref (101)), some (.ref (102)), some (.int (iI (5 * (t : Int)))), none, none, none] [] NN h := by
  obtain ⟨hC, ⟨th, hM⟩, ⟨f0, ho⟩, ⟨f9, hd9⟩⟩ := id hW
  obtain ⟨g0, -⟩ := id hC
  obtain ⟨w9, pst9, bg9, mn9, lz9, A9, -⟩ := id hM
  refine g_aload_n (q := 1404) rfl rfl dL_law_1403 rfl ?_
  refine g_Vr (q := 1407) (d' := 0) (i := 0) (av := []) (st := []) (v := .int (iI (S.2.2.1.length))) kvL_157 (t_X7_cached l h S sv hC) (by decide) g0 rfl (Nat.le_of_ble_eq_true rfl) ⟨(Nat.le_of_ble_eq_true rfl), (Nat.le_of_ble_eq_true rfl)⟩ ⟨by omega, by omega⟩ rfl rfl dL_law_1404 rfl ?_
  refine g_aload_n (q := 1408) rfl rfl dL_law_1407 rfl ?_
  refine g_Vw (q := 1411) (d' := 0) (i := 90) (av := []) (st := [.int (iI (S.2.2.1.length))]) kvL_160 (t_X8_cached l h th S sv hM) (by decide) A9 rfl (Nat.le_of_ble_eq_true rfl) ⟨(Nat.le_of_ble_eq_true rfl), (Nat.le_of_ble_eq_true rfl)⟩ ⟨by omega, by omega⟩ rfl rfl dL_law_1408 rfl (fun v h2 hp => ?_)
  obtain ⟨rfl, m2, fr2⟩ := hp
  refine g_icmp_same (t := 1530) (q := 1414) dL_law_1411 rfl rfl ?_
  refine g_wide (k' := (103 + t + 1)) (n' := (11921 + 6 * t + 6)) (by omega) (by omega) ?_
  exact next S sv h2 ⟨hC.cells (fun j hj => fr2 j (Or.inl hj)), ⟨0, m2⟩, ⟨f0, (fr2 101 (by omega)).trans ho⟩, ⟨f9, (fr2 102 (by omega)).trans hd9⟩⟩
set_option maxRecDepth 4000 in
theorem lc_cachedAt (l : Launch) (L : Nat) (xs : Nat → Int32) (u : UInt32) (post : Post) (t : Nat) (h : EHp) (S : ASt) (sv : List ASt) (hL : L ≤ 2560) (ht : 5 * t + 5 ≤ L) (hW : LWo h S sv) (next : ∀ (S' : ASt) (sv' : List ASt) (h' : EHp), LWo h' S' sv' → G l (scX L xs) mL_law 14 601024 7293034 post (103 + t + 1) (11921 + 6 * t + 6) 1530 [some (.float (u)), some (.ref (0)), some (.ref (90)), some (.ref (101)), some (.ref (102)), some (.int (iI (5 * (t : Int)))), none, none, none] [] NN h') : G l (scX L xs) mL_law 14 601024 7293034 (post) (103 + t) (11921 + 6 * t) 1416 [some (.float (u)), some (.ref (0)), some (.ref (90)), some (.ref (101)), some (.ref (102)), some (.int (iI (5 * (t : Int)))), none, none, none] [] NN h := by
  obtain ⟨hC, ⟨th, hM⟩, ⟨f0, ho⟩, ⟨f9, hd9⟩⟩ := id hW
  obtain ⟨z1, e1, r1⟩ := iI_any (xs (5 * (t : Int) + 1).toNat)
  obtain ⟨kd, v0, S', sv', kr, j1, j2⟩ := j_cachedAt l h S sv z1 r1 hC f0 ho
  refine g_aload_n (q := 1417) rfl rfl dL_law_1416 rfl ?_
  refine g_aload_s (q := 1418) rfl rfl dL_law_1417 rfl ?_
  refine g_iload (q := 1420) rfl dL_law_1418 rfl ?_
  refine g_iconst (q := 1421) dL_law_1420 rfl ?_
  refine g_iadd (q := 1422) dL_law_1421 rfl ?_
  refine g_sld (q := 1423) (by omega) (by omega) (by omega) dL_law_1422 rfl ?_
  rw [e1]
  refine g_aload_n (q := 1424) rfl rfl dL_law_1423 rfl ?_
  refine g_Sww (q := 1427) (d' := 8) (av := [.ref (0), .int (iI (z1)), .ref (101)]) (st := []) ksL_161 (j1) rfl (Nat.le_of_ble_eq_true rfl) ⟨(Nat.le_of_ble_eq_true rfl), (Nat.le_of_ble_eq_true rfl)⟩ ⟨by omega, by omega⟩ rfl rfl dL_law_1424 rfl (fun v h1 hp => ?_)
  obtain ⟨rfl, c1, ⟨f1, o1, of1⟩, fr1⟩ := hp
  have hM1 : MRep h1 th S sv := hM.cells (fun j a b => fr1 j a (by omega))
  obtain ⟨w9, pst9, bg9, mn9, lz9, A9, -⟩ := id hM1
  refine g_istore (q := 1429) (al2 := [some (.float (u)), some (.ref (0)), some (.ref (90)), some (.ref (101)), some (.ref (102)), some (.int (iI (5 * (t : Int)))), some (.int (iI (kd))), none, none]) (by decide) rfl rfl dL_law_1427 rfl ?_
  refine g_aload_n (q := 1430) rfl rfl dL_law_1429 rfl ?_
  refine g_aload_s (q := 1431) rfl rfl dL_law_1430 rfl ?_
  refine g_iload (q := 1433) rfl dL_law_1431 rfl ?_
  refine g_iconst (q := 1434) dL_law_1433 rfl ?_
  refine g_iadd (q := 1435) dL_law_1434 rfl ?_
  refine g_sld (q := 1436) (by omega) (by omega) (by omega) dL_law_1435 rfl ?_
  rw [e1]
  refine g_Vw (q := 1439) (d' := 1) (i := 90) (av := [.int (iI (z1))]) (st := []) kvL_163 (j2 h1 th hM1) (by decide) A9 rfl (Nat.le_of_ble_eq_true rfl) ⟨(Nat.le_of_ble_eq_true rfl), (Nat.le_of_ble_eq_true rfl)⟩ ⟨by omega, by omega⟩ rfl rfl dL_law_1436 rfl (fun v h2 hp => ?_)
  obtain ⟨⟨z, rfl, ez⟩, m2, fr2⟩ := hp
  obtain ⟨w8, pst8, bg8, mn8, lz8, A8, -⟩ := id m2
  have o2 : h2 101 = _ := (fr2 101 (by omega)).trans o1
  refine g_istore (q := 1441) (al2 := [some (.float (u)), some (.ref (0)), some (.ref (90)), some (.ref (101)), some (.ref (102)), some (.int (iI (5 * (t : Int)))), some (.int (iI (kd))), some (.int (iI (z))), none]) (by decide) rfl rfl dL_law_1439 rfl ?_
  refine g_aload_n (q := 1442) rfl rfl dL_law_1441 rfl ?_
  refine g_Vr (q := 1445) (d' := 0) (i := 90) (av := []) (st := []) (v := .int (iI (kd))) kvL_91 (t_X8_thrown l h2 kd S' sv' m2) (by decide) A8 rfl (Nat.le_of_ble_eq_true rfl) ⟨(Nat.le_of_ble_eq_true rfl), (Nat.le_of_ble_eq_true rfl)⟩ ⟨by omega, by omega⟩ rfl rfl dL_law_1442 rfl ?_
  refine g_iload (q := 1447) rfl dL_law_1445 rfl ?_
  refine g_icmp_eq (t := 1452) (q := 1450) ⟨by omega, by omega⟩ ⟨by omega, by omega⟩ dL_law_1447 rfl rfl (fun c1447 => ?_) (fun c1447 => ?_)
  · refine g_iload (q := 1454) rfl dL_law_1452 rfl ?_
    refine g_if_ne (t := 1469) (q := 1457) ⟨by omega, by omega⟩ dL_law_1454 rfl rfl (fun c1454 => ?_) (fun c1454 => ?_)
    · refine g_goto (q := 1530) dL_law_1469 rfl ?_
      refine g_drop (al2 := [some (.float (u)), some (.ref (0)), some (.ref (90)), some (.ref (101)), some (.ref (102)), some (.int (iI (5 * (t : Int)))), none, some (.int (iI (z))), none]) 6 rfl ?_
      refine g_drop (al2 := [some (.float (u)), some (.ref (0)), some (.ref (90)), some (.ref (101)), some (.ref (102)), some (.int (iI (5 * (t : Int)))), none, none, none]) 7 rfl ?_
      exact next S' sv' h2 ⟨c1.cells (fun j hj => fr2 j (Or.inl hj)), ⟨kd, m2⟩, ⟨f1, o2⟩, ⟨f9, (fr2 102 (by omega)).trans ((fr1 102 (by decide) (by decide)).trans hd9)⟩⟩
    · have hk : kd = 0 := by omega
      have ev : f1 ((0 : Int)).toNat = (iI z).toInt64 := by rw [ez hk]; exact of1 hk
      refine g_aload_n (q := 1458) rfl rfl dL_law_1457 rfl ?_
      refine g_iconst (q := 1459) dL_law_1458 rfl ?_
      refine g_laload (q := 1460) (by decide) o2 (by decide) (by decide) (by decide) dL_law_1459 rfl ?_
      refine g_iload (q := 1462) rfl dL_law_1460 rfl ?_
      refine g_i2l (q := 1463) dL_law_1462 rfl ?_
      refine g_lcmp (q := 1464) dL_law_1463 rfl ?_
      refine g_ifr_eq (t := 1469) (q := 1467) dL_law_1464 rfl rfl (fun cl => ?_) (fun cl => ?_)
      · refine g_goto (q := 1530) dL_law_1469 rfl ?_
        refine g_drop (al2 := [some (.float (u)), some (.ref (0)), some (.ref (90)), some (.ref (101)), some (.ref (102)), some (.int (iI (5 * (t : Int)))), none, some (.int (iI (z))), none]) 6 rfl ?_
        refine g_drop (al2 := [some (.float (u)), some (.ref (0)), some (.ref (90)), some (.ref (101)), some (.ref (102)), some (.int (iI (5 * (t : Int)))), none, none, none]) 7 rfl ?_
        exact next S' sv' h2 ⟨c1.cells (fun j hj => fr2 j (Or.inl hj)), ⟨kd, m2⟩, ⟨f1, o2⟩, ⟨f9, (fr2 102 (by omega)).trans ((fr1 102 (by decide) (by decide)).trans hd9)⟩⟩
      · exact absurd (by rw [ev]; exact lg_self _) cl
  · omega
set_option maxRecDepth 4000 in
theorem lc_undo (l : Launch) (L : Nat) (xs : Nat → Int32) (u : UInt32) (post : Post) (t : Nat) (h : EHp) (S : ASt) (sv : List ASt) (hL : L ≤ 2560) (ht : 5 * t + 5 ≤ L) (hW : LWo h S sv) (next : ∀ (S' : ASt) (sv' : List ASt) (h' : EHp), LWo h' S' sv' → G l (scX L xs) mL_law 14 601024 7293034 post (103 + t + 1) (11921 + 6 * t + 6) 1530 [some (.float (u)), some (.ref (0)), some (.ref (90)), some (.ref (101)), some (.ref (102)), some (.int (iI (5 * (t : Int)))), none, none, none] [] NN h') : G l (scX L xs) mL_law 14 601024 7293034 (post) (103 + t) (11921 + 6 * t) 1472 [some (.float (u)), some (.ref (0)), some (.ref (90)), some (.ref (101)), some (.ref (102)), some (.int (iI (5 * (t : Int)))), none, none, none] [] NN h := by
  obtain ⟨hC, ⟨th, hM⟩, ⟨f0, ho⟩, ⟨f9, hd9⟩⟩ := id hW
  obtain ⟨kd, v0, S', sv', kr, j1, j2⟩ := j_undo l h S sv   hC f0 ho
  refine g_aload_n (q := 1473) rfl rfl dL_law_1472 rfl ?_
  refine g_aload_n (q := 1474) rfl rfl dL_law_1473 rfl ?_
  refine g_Sww (q := 1477) (d' := 8) (av := [.ref (0), .ref (101)]) (st := []) ksL_164 (j1) rfl (Nat.le_of_ble_eq_true rfl) ⟨(Nat.le_of_ble_eq_true rfl), (Nat.le_of_ble_eq_true rfl)⟩ ⟨by omega, by omega⟩ rfl rfl dL_law_1474 rfl (fun v h1 hp => ?_)
  obtain ⟨rfl, c1, ⟨f1, o1, of1⟩, fr1⟩ := hp
  have hM1 : MRep h1 th S sv := hM.cells (fun j a b => fr1 j a (by omega))
  obtain ⟨w9, pst9, bg9, mn9, lz9, A9, -⟩ := id hM1
  refine g_istore (q := 1479) (al2 := [some (.float (u)), some (.ref (0)), some (.ref (90)), some (.ref (101)), some (.ref (102)), some (.int (iI (5 * (t : Int)))), some (.int (iI (kd))), none, none]) (by decide) rfl rfl dL_law_1477 rfl ?_
  refine g_aload_n (q := 1480) rfl rfl dL_law_1479 rfl ?_
  refine g_Vw (q := 1483) (d' := 1) (i := 90) (av := []) (st := []) kvL_167 (j2 h1 th hM1) (by decide) A9 rfl (Nat.le_of_ble_eq_true rfl) ⟨(Nat.le_of_ble_eq_true rfl), (Nat.le_of_ble_eq_true rfl)⟩ ⟨by omega, by omega⟩ rfl rfl dL_law_1480 rfl (fun v h2 hp => ?_)
  obtain ⟨⟨z, rfl, ez⟩, m2, fr2⟩ := hp
  obtain ⟨w8, pst8, bg8, mn8, lz8, A8, -⟩ := id m2
  have o2 : h2 101 = _ := (fr2 101 (by omega)).trans o1
  refine g_istore (q := 1485) (al2 := [some (.float (u)), some (.ref (0)), some (.ref (90)), some (.ref (101)), some (.ref (102)), some (.int (iI (5 * (t : Int)))), some (.int (iI (kd))), some (.int (iI (z))), none]) (by decide) rfl rfl dL_law_1483 rfl ?_
  refine g_aload_n (q := 1486) rfl rfl dL_law_1485 rfl ?_
  refine g_Vr (q := 1489) (d' := 0) (i := 90) (av := []) (st := []) (v := .int (iI (kd))) kvL_91 (t_X8_thrown l h2 kd S' sv' m2) (by decide) A8 rfl (Nat.le_of_ble_eq_true rfl) ⟨(Nat.le_of_ble_eq_true rfl), (Nat.le_of_ble_eq_true rfl)⟩ ⟨by omega, by omega⟩ rfl rfl dL_law_1486 rfl ?_
  refine g_iload (q := 1491) rfl dL_law_1489 rfl ?_
  refine g_icmp_eq (t := 1496) (q := 1494) ⟨by omega, by omega⟩ ⟨by omega, by omega⟩ dL_law_1491 rfl rfl (fun c1491 => ?_) (fun c1491 => ?_)
  · refine g_iload (q := 1498) rfl dL_law_1496 rfl ?_
    refine g_if_ne (t := 1513) (q := 1501) ⟨by omega, by omega⟩ dL_law_1498 rfl rfl (fun c1498 => ?_) (fun c1498 => ?_)
    · refine g_goto (q := 1530) dL_law_1513 rfl ?_
      refine g_drop (al2 := [some (.float (u)), some (.ref (0)), some (.ref (90)), some (.ref (101)), some (.ref (102)), some (.int (iI (5 * (t : Int)))), none, some (.int (iI (z))), none]) 6 rfl ?_
      refine g_drop (al2 := [some (.float (u)), some (.ref (0)), some (.ref (90)), some (.ref (101)), some (.ref (102)), some (.int (iI (5 * (t : Int)))), none, none, none]) 7 rfl ?_
      exact next S' sv' h2 ⟨c1.cells (fun j hj => fr2 j (Or.inl hj)), ⟨kd, m2⟩, ⟨f1, o2⟩, ⟨f9, (fr2 102 (by omega)).trans ((fr1 102 (by decide) (by decide)).trans hd9)⟩⟩
    · have hk : kd = 0 := by omega
      have ev : f1 ((0 : Int)).toNat = (iI z).toInt64 := by rw [ez hk]; exact of1 hk
      refine g_aload_n (q := 1502) rfl rfl dL_law_1501 rfl ?_
      refine g_iconst (q := 1503) dL_law_1502 rfl ?_
      refine g_laload (q := 1504) (by decide) o2 (by decide) (by decide) (by decide) dL_law_1503 rfl ?_
      refine g_iload (q := 1506) rfl dL_law_1504 rfl ?_
      refine g_i2l (q := 1507) dL_law_1506 rfl ?_
      refine g_lcmp (q := 1508) dL_law_1507 rfl ?_
      refine g_ifr_eq (t := 1513) (q := 1511) dL_law_1508 rfl rfl (fun cl => ?_) (fun cl => ?_)
      · refine g_goto (q := 1530) dL_law_1513 rfl ?_
        refine g_drop (al2 := [some (.float (u)), some (.ref (0)), some (.ref (90)), some (.ref (101)), some (.ref (102)), some (.int (iI (5 * (t : Int)))), none, some (.int (iI (z))), none]) 6 rfl ?_
        refine g_drop (al2 := [some (.float (u)), some (.ref (0)), some (.ref (90)), some (.ref (101)), some (.ref (102)), some (.int (iI (5 * (t : Int)))), none, none, none]) 7 rfl ?_
        exact next S' sv' h2 ⟨c1.cells (fun j hj => fr2 j (Or.inl hj)), ⟨kd, m2⟩, ⟨f1, o2⟩, ⟨f9, (fr2 102 (by omega)).trans ((fr1 102 (by decide) (by decide)).trans hd9)⟩⟩
      · exact absurd (by rw [ev]; exact lg_self _) cl
  · omega
set_option maxRecDepth 4000 in
theorem lc_digest (l : Launch) (L : Nat) (xs : Nat → Int32) (u : UInt32) (post : Post) (t : Nat) (h : EHp) (S : ASt) (sv : List ASt) (hL : L ≤ 2560) (ht : 5 * t + 5 ≤ L) (hW : LWo h S sv) (next : ∀ (S' : ASt) (sv' : List ASt) (h' : EHp), LWo h' S' sv' → G l (scX L xs) mL_law 14 601024 7293034 post (103 + t + 1) (11921 + 6 * t + 6) 1530 [some (.float (u)), some (.ref (0)), some (.ref (90)), some (.ref (101)), some (.ref (102)), some (.int (iI (5 * (t : Int)))), none, none, none] [] NN h') : G l (scX L xs) mL_law 14 601024 7293034 (post) (103 + t) (11921 + 6 * t) 1516 [some (.float (u)), some (.ref (0)), some (.ref (90)), some (.ref (101)), some (.ref (102)), some (.int (iI (5 * (t : Int)))), none, none, none] [] NN h := by
  obtain ⟨hC, ⟨th, hM⟩, ⟨f0, ho⟩, ⟨f9, hd9⟩⟩ := id hW
  obtain ⟨g0, -⟩ := id hC
  obtain ⟨w9, pst9, bg9, mn9, lz9, A9, -⟩ := id hM
  refine g_aload_n (q := 1517) rfl rfl dL_law_1516 rfl ?_
  refine g_Vw (q := 1520) (d' := 5) (i := 0) (av := []) (st := []) kvL_168 (t_X7_digest l h S sv hC) (by decide) g0 rfl (Nat.le_of_ble_eq_true rfl) ⟨(Nat.le_of_ble_eq_true rfl), (Nat.le_of_ble_eq_true rfl)⟩ ⟨by omega, by omega⟩ rfl rfl dL_law_1517 rfl (fun v h1 hp => ?_)
  obtain ⟨rfl, c1, fr1⟩ := hp
  have hM1 : MRep h1 th S sv := hM.cells (fun j a b => fr1 j (by omega))
  obtain ⟨w8, pst8, bg8, mn8, lz8, A8, -⟩ := id hM1
  obtain ⟨dd, hdd⟩ : ∃ dd, dig S sv = dd := ⟨_, rfl⟩
  rw [hdd]
  refine g_aload_n (q := 1521) rfl rfl dL_law_1520 rfl ?_
  refine g_Vw (q := 1524) (d' := 7) (i := 90) (av := []) (st := [.long (dd)]) kvL_172 (t_X8_digest l h1 th S sv hM1) (by decide) A8 rfl (Nat.le_of_ble_eq_true rfl) ⟨(Nat.le_of_ble_eq_true rfl), (Nat.le_of_ble_eq_true rfl)⟩ ⟨by omega, by omega⟩ rfl rfl dL_law_1521 rfl (fun v h2 hp => ?_)
  rw [hdd] at hp
  obtain ⟨rfl, m2, fr2⟩ := hp
  refine g_lcmp (q := 1525) dL_law_1524 rfl ?_
  refine g_ifr_eq (t := 1530) (q := 1528) dL_law_1525 rfl rfl (fun cl => ?_) (fun cl => ?_)
  · refine g_wide (k' := (103 + t + 1)) (n' := (11921 + 6 * t + 6)) (by omega) (by omega) ?_
    exact next S sv h2 ⟨c1.cells (fun j hj => fr2 j (Or.inl hj)), ⟨0, m2⟩, ⟨f0, (fr2 101 (by omega)).trans ((fr1 101 (by decide)).trans ho)⟩, ⟨f9, (fr2 102 (by omega)).trans ((fr1 102 (by decide)).trans hd9)⟩⟩
  · exact absurd (lg_self _) cl
