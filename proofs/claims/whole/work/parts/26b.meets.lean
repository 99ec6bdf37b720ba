/-! ===== the reference: meets ===== -/
set_option maxRecDepth 4000 in
theorem t_X8_meets (l : Launch) (h : EHp) (th : Int) (S : ASt) (sv : List ASt) (hM : MRep h th S sv) (ls : Int) (l0 : 1 ≤ ls) (l1 : ls ≤ 15) : CT l mX8_meets 8 0 0 [.ref (90), .int (iI (ls))] NN h (wP (fun v h' => v = .int (iI (isc S ls).2.1) ∧ MRep h' th (isc S ls).2.2.2 sv ∧ (∃ fd, h' 99 = cI 128 fd ∧ Ag (isc S ls).2.1 fd (isc S ls).2.2.1) ∧ FrM h h')) := by
  obtain ⟨w, pst, bg, mn, lz, hA, ⟨m1, m2, m3, m4, m5⟩, ⟨⟨cs, s1⟩, ⟨ct, s2⟩, ⟨nx, s3⟩, ⟨fd, s4⟩, ⟨od, s5⟩⟩, hW, hP, hY⟩ := id hM
  have hLS := hM.LS
  have n1 := ord_pos l0 l1 hLS
  have n4 := ord_le (S := S) (ls := ls)
  have ho : ∀ t, 0 ≤ t → t < ordn S ls → 0 ≤ ordf S ls t ∧ ordf S ls t < 4 := fun t a b => ord_rng a b
  have o0 := ho 0 (by omega) (by omega)
  obtain ⟨q, hq⟩ : ∃ q : Nat, ordf S ls 0 = q := ⟨(ordf S ls 0).toNat, by omega⟩
  have hqt : (ordf S ls 0).toNat = q := by rw [hq, Int.toNat_natCast]
  have hq4 : q < 4 := by omega
  refine CT.of (by decide) (Nat.le_of_ble_eq_true rfl) ?_
  refine g_al (al2 := [some (.ref (90)), some (.int (iI (ls))), none, none, none, none, none]) rfl ?_
  refine g_iconst (q := 1) dX8_meets_0 rfl ?_
  refine g_istore_n (q := 2) (al2 := [some (.ref (90)), some (.int (iI (ls))), some (.int (iI (0))), none, none, none, none]) rfl (by decide) rfl rfl dX8_meets_1 rfl ?_
  refine g_iconst (q := 3) dX8_meets_2 rfl ?_
  refine g_istore_n (q := 4) (al2 := [some (.ref (90)), some (.int (iI (ls))), some (.int (iI (0))), some (.int (iI (0))), none, none, none]) rfl (by decide) rfl rfl dX8_meets_3 rfl ?_
  refine loopG (σ := Nat × Int × (Int → Int) × EHp) (P := fun zz => match zz with | (k, n, od2, h2) => G l noX mX8_meets 8 0 0 (wP (fun v h' => v = .int (iI (isc S ls).2.1) ∧ MRep h' th (isc S ls).2.2.2 sv ∧ (∃ fd, h' 99 = cI 128 fd ∧ Ag (isc S ls).2.1 fd (isc S ls).2.2.1) ∧ FrM h h')) 0 0 4 [some (.ref (90)), some (.int (iI (ls))), some (.int (iI (n))), some (.int (iI (k))), none, none, none] [] NN h2) (I := fun zz => match zz with | (k, n, od2, h2) => k ≤ 260 ∧ n = (en (oP S ls) k).1 ∧ (∀ i, 0 ≤ i → i < n → od2 i = (en (oP S ls) k).2 i % 4) ∧ h2 100 = cI 4 od2 ∧ ∀ j, j ≠ 100 → h2 j = h j) (fun zz => match zz with | (k, n, od2, h2) => 260 - k) ?_ (0, 0, od, h) ⟨by omega, rfl, fun i a b => by omega, s5, fun _ _ => rfl⟩
  rintro ⟨k, n, od2, h2⟩ hI ih
  obtain ⟨k1, en1, en2, hr, fr⟩ := hI
  have q0 : h2 90 = _ := (fr 90 (by decide)).trans hA
  have q1 : h2 91 = _ := (fr 91 (by decide)).trans m1
  have ek := en_ok (oP S ls) k
  have nr : 0 ≤ n ∧ n ≤ 260 := by omega
  refine g_iload_n (q := 5) rfl rfl dX8_meets_4 rfl ?_
  refine g_sipush (q := 8) (by decide) dX8_meets_5 rfl ?_
  refine g_icmp_ge (t := 56) (q := 11) ⟨by omega, by omega⟩ ⟨by omega, by omega⟩ dX8_meets_8 rfl rfl (fun c8 => ?_) (fun c8 => ?_)
  · have e260 : k = 260 := by omega
    subst e260
    have enn : n = ordn S ls := en1
    subst enn
    have d2 : Ag (ordn S ls) od2 (ordf S ls) := fun i a b => en2 i a b
    have hM1 : MRep h2 th S sv := hM.scr ((fr 99 (by decide)).trans s4) hr (fun j _ hj => fr j hj)
    have hk := d2 0 (by omega) (by omega)
    refine g_iconst (q := 57) dX8_meets_56 rfl ?_
    refine g_istore_n (q := 58) (al2 := [some (.ref (90)), some (.int (iI (ls))), some (.int (iI (ordn S ls))), some (.int (iI (0))), none, none, none]) rfl (by decide) rfl rfl dX8_meets_57 rfl ?_
    refine g_aload_n (q := 59) rfl rfl dX8_meets_58 rfl ?_
    refine g_aload_n (q := 60) rfl rfl dX8_meets_59 rfl ?_
    refine g_get (q := 63) fX8_38r (by decide) q0 rfl dX8_meets_60 rfl ?_
    refine g_iconst (q := 64) dX8_meets_63 rfl ?_
    refine g_iaload (q := 65) (by decide) hr (by decide) (by decide) (by decide) dX8_meets_64 rfl ?_
    rw [hk, hq]
    refine g_iconst (q := 66) dX8_meets_65 rfl ?_
    refine g_Vw (q := 69) (d' := 7) (i := 90) (av := [.int (iI ((q : Int))), .int (iI (0))]) (st := []) kvX8_142 (t_X8_asks l h2 th S sv hM1 q hq4 0 (by decide) (by decide)) (by decide) q0 rfl (Nat.le_of_ble_eq_true rfl) ⟨(Nat.le_of_ble_eq_true rfl), (Nat.le_of_ble_eq_true rfl)⟩ ⟨(Nat.le_of_ble_eq_true rfl), (Nat.le_of_ble_eq_true rfl)⟩ rfl rfl dX8_meets_66 rfl (fun v h3 hp => ?_)
    obtain ⟨rfl, p1, p2⟩ := hp
    have ei : isc0 S ls = ((qry S q 0).1, 0, fun _ => 0, (qry S q 0).2) := by unfold isc0; rw [hqt]
    have hF0 := FI0 hLS n1
    rw [ei] at hF0
    refine g_istore (q := 71) (al2 := [some (.ref (90)), some (.int (iI (ls))), some (.int (iI (ordn S ls))), some (.int (iI (0))), some (.int (iI ((qry S q 0).1))), none, none]) (by decide) rfl rfl dX8_meets_69 rfl ?_
    refine loopG (σ := Int × FSt × (Int → Int) × EHp) (P := fun zz => match zz with | (r, s, fd2, h4) => G l noX mX8_meets 8 0 0 (wP (fun v h' => v = .int (iI (isc S ls).2.1) ∧ MRep h' th (isc S ls).2.2.2 sv ∧ (∃ fd, h' 99 = cI 128 fd ∧ Ag (isc S ls).2.1 fd (isc S ls).2.2.1) ∧ FrM h h')) 0 0 71 [some (.ref (90)), some (.int (iI (ls))), some (.int (iI (ordn S ls))), some (.int (iI (s.2.1))), some (.int (iI (s.1))), none, none] [] NN h4) (I := fun zz => match zz with | (r, s, fd2, h4) => 0 ≤ r ∧ r ≤ 64 ∧ FI S.1 (ordf S ls) r s ∧ fnd (ordf S ls) (ordn S ls) (64 - r).toNat s = isc S ls ∧ MRep h4 th s.2.2.2 sv ∧ h4 99 = cI 128 fd2 ∧ Ag s.2.1 fd2 s.2.2.1 ∧ h4 100 = cI 4 od2 ∧ FrM h h4) (fun zz => match zz with | (r, s, fd2, h4) => (64 - r).toNat) ?_ (0, ((qry S q 0).1, 0, fun _ => 0, (qry S q 0).2), fd, h3) ⟨Int.le_refl _, by omega, hF0, by unfold isc; rw [ei]; rfl, p1, (p2 99 (by decide) (by omega)).trans ((fr 99 (by decide)).trans s4), fun t a b => by have : t < 0 := b; omega, (p2 100 (by decide) (by omega)).trans hr, fun j hj => (p2 j (by omega) (by omega)).trans (fr j (by omega))⟩
    rintro ⟨r, s, fd2, h4⟩ hI ih
    obtain ⟨r0, r6, hF, ef, hM4, hr4, ha, hod, frm⟩ := hI
    have hcd := hF.cand (hLS _ (by omega))
    obtain ⟨f1, -, -, f4, f5, -, -⟩ := id hF
    obtain ⟨w4, pst4, bg4, mn4, lz4, i0, -⟩ := id hM4
    have hc1 : s.1 = -1 ∨ (0 ≤ s.1 ∧ s.1 ≤ 511 ∧ r < 64) := by
      by_cases z : s.1 = -1
      · exact Or.inl z
      · exact Or.inr (hcd z)
    refine g_iload (q := 73) rfl dX8_meets_71 rfl ?_
    refine g_iconst (q := 74) dX8_meets_73 rfl ?_
    refine g_icmp_eq (t := 194) (q := 77) ⟨by omega, by omega⟩ ⟨by omega, by omega⟩ dX8_meets_74 rfl rfl (fun c74 => ?_) (fun c74 => ?_)
    · have ee : fnd (ordf S ls) (ordn S ls) (64 - r).toNat s = s := fnd_e (by omega) _
      rw [ee] at ef
      refine g_iload_n (q := 195) rfl rfl dX8_meets_194 rfl ?_
      exact g_ireturn (fun z => NN_f z) (Nat.le_of_ble_eq_true rfl) (Nat.le_of_ble_eq_true rfl) dX8_meets_195 rfl (wP_in ⟨by rw [← ef], by rw [← ef]; exact hM4, ⟨fd2, hr4, by rw [← ef]; exact ha⟩, frm⟩)
    · have hn : s.1 ≠ -1 := by omega
      have hF1 := hF.step hLS ho n1 hn
      have ef1 : fnd (ordf S ls) (ordn S ls) (64 - (r + 1)).toNat (stp (ordf S ls) (ordn S ls) s) = isc S ls := by rw [← fnd_s hn, show (64 - (r + 1)).toNat + 1 = (64 - r).toNat by omega]; exact ef
      have k118 : ∀ (y : Int) (S1 : ASt) (h5 : EHp) (hz : ask (ordf S ls) s.1 ((ordn S ls) - 1).toNat 1 s.1 s.2.2.2 = (y, S1) ∧ (y = -1 ∨ (s.1 ≤ y ∧ y ≤ 511)) ∧ MRep h5 th S1 sv ∧ ∀ j, j ≠ 91 → (j < 93 ∨ 98 < j) → h5 j = h4 j), G l noX mX8_meets 8 0 0 (wP (fun v h' => v = .int (iI (isc S ls).2.1) ∧ MRep h' th (isc S ls).2.2.2 sv ∧ (∃ fd, h' 99 = cI 128 fd ∧ Ag (isc S ls).2.1 fd (isc S ls).2.2.1) ∧ FrM h h')) 0 0 118 [some (.ref (90)), some (.int (iI (ls))), some (.int (iI (ordn S ls))), some (.int (iI (s.2.1))), some (.int (iI (s.1))), some (.int (iI (y))), none] [] NN h5 := by
        intro y S1 h5 hz
        obtain ⟨hR, yr, hM5, fr5⟩ := hz
        obtain ⟨w5, pst5, bg5, mn5, lz5, j0, -⟩ := id hM5
        have hr5 : h5 99 = _ := (fr5 99 (by decide) (by omega)).trans hr4
        have hod5 : h5 100 = _ := (fr5 100 (by decide) (by omega)).trans hod
        have frm5 : FrM h h5 := fun j hj => (fr5 j (by omega) (by omega)).trans (frm j hj)
        have et : stp (ordf S ls) (ordn S ls) s = stp2 (ordf S ls) s.1 s.2.1 s.2.2.1 (y, S1) := by unfold stp; rw [hR]
        refine g_iload (q := 120) rfl dX8_meets_118 rfl ?_
        refine g_iload (q := 122) rfl dX8_meets_120 rfl ?_
        refine g_icmp_ne (t := 167) (q := 125) ⟨by omega, by omega⟩ ⟨by omega, by omega⟩ dX8_meets_122 rfl rfl (fun c122 => ?_) (fun c122 => ?_)
        · refine g_iload (q := 169) rfl dX8_meets_167 rfl ?_
          refine g_iconst (q := 170) dX8_meets_169 rfl ?_
          refine g_icmp_ne (t := 177) (q := 173) ⟨by omega, by omega⟩ ⟨by omega, by omega⟩ dX8_meets_170 rfl rfl (fun c170 => ?_) (fun c170 => ?_)
          · have cy : ¬ y = s.1 := by omega
            have en : nxC s.1 y = y := by unfold nxC; rw [if_neg cy]
            have cz : ¬ y = -1 := by omega
            refine g_aload_n (q := 178) rfl rfl dX8_meets_177 rfl ?_
            refine g_aload_n (q := 179) rfl rfl dX8_meets_178 rfl ?_
            refine g_get (q := 182) fX8_38r (by decide) j0 rfl dX8_meets_179 rfl ?_
            refine g_iconst (q := 183) dX8_meets_182 rfl ?_
            refine g_iaload (q := 184) (by decide) hod5 (by decide) (by decide) (by decide) dX8_meets_183 rfl ?_
            rw [hk, hq]
            refine g_iload (q := 186) rfl dX8_meets_184 rfl ?_
            refine g_Vw (q := 189) (d' := 7) (i := 90) (av := [.int (iI ((q : Int))), .int (iI (y))]) (st := []) kvX8_142 (t_X8_asks l h5 th S1 sv hM5 q hq4 (y) (by omega) (by omega)) (by decide) j0 rfl (Nat.le_of_ble_eq_true rfl) ⟨(Nat.le_of_ble_eq_true rfl), (Nat.le_of_ble_eq_true rfl)⟩ ⟨(Nat.le_of_ble_eq_true rfl), (Nat.le_of_ble_eq_true rfl)⟩ rfl rfl dX8_meets_186 rfl (fun v h7 hp7 => ?_)
            obtain ⟨rfl, p5, p6⟩ := hp7
            refine g_istore (q := 191) (al2 := [some (.ref (90)), some (.int (iI (ls))), some (.int (iI (ordn S ls))), some (.int (iI (s.2.1))), some (.int (iI ((qry S1 q (y)).1))), some (.int (iI (y))), none]) (by decide) rfl rfl dX8_meets_189 rfl ?_
            refine g_goto (q := 71) dX8_meets_191 rfl ?_
            refine g_drop (al2 := [some (.ref (90)), some (.int (iI (ls))), some (.int (iI (ordn S ls))), some (.int (iI (s.2.1))), some (.int (iI ((qry S1 q (y)).1))), none, none]) 5 rfl ?_
            have es : stp (ordf S ls) (ordn S ls) s = ((qry S1 q (y)).1, s.2.1, s.2.2.1, (qry S1 q (y)).2) := by rw [et]; unfold stp2; simp only []; simp only [en, if_neg cz, if_neg cy, hqt]
            rw [es] at hF1 ef1
            exact ih (r + 1, ((qry S1 q (y)).1, s.2.1, s.2.2.1, (qry S1 q (y)).2), fd2, h7) ⟨by omega, by omega, hF1, ef1, p5, (p6 99 (by decide) (by omega)).trans hr5, ha, (p6 100 (by decide) (by omega)).trans hod5, fun j hj => (p6 j (by omega) (by omega)).trans (frm5 j hj)⟩ (by show (64 - (r + 1)).toNat < (64 - r).toNat; omega)
          · have cy : ¬ y = s.1 := by omega
            have en : nxC s.1 y = -1 := by unfold nxC; rw [if_neg cy]; omega
            refine g_iconst (q := 174) dX8_meets_173 rfl ?_
            refine g_goto (q := 189) dX8_meets_174 rfl ?_
            refine g_istore (q := 191) (al2 := [some (.ref (90)), some (.int (iI (ls))), some (.int (iI (ordn S ls))), some (.int (iI (s.2.1))), some (.int (iI (-1))), some (.int (iI (y))), none]) (by decide) rfl rfl dX8_meets_189 rfl ?_
            refine g_goto (q := 71) dX8_meets_191 rfl ?_
            refine g_drop (al2 := [some (.ref (90)), some (.int (iI (ls))), some (.int (iI (ordn S ls))), some (.int (iI (s.2.1))), some (.int (iI (-1))), none, none]) 5 rfl ?_
            have es : stp (ordf S ls) (ordn S ls) s = (-1, s.2.1, s.2.2.1, S1) := by rw [et]; unfold stp2; simp only []; simp only [en, if_neg cy, if_true]
            rw [es] at hF1 ef1
            exact ih (r + 1, (-1, s.2.1, s.2.2.1, S1), fd2, h5) ⟨by omega, by omega, hF1, ef1, hM5, hr5, ha, hod5, frm5⟩ (by show (64 - (r + 1)).toNat < (64 - r).toNat; omega)
        · refine g_aload_n (q := 126) rfl rfl dX8_meets_125 rfl ?_
          refine g_get (q := 129) fX8_35r (by decide) j0 rfl dX8_meets_126 rfl ?_
          refine g_iload_n (q := 130) rfl rfl dX8_meets_129 rfl ?_
          refine g_iload (q := 132) rfl dX8_meets_130 rfl ?_
          refine g_iastore (q := 133) (by decide) hr5 (by omega) (by omega) (by decide) dX8_meets_132 rfl ?_
          refine hp_in (fun hh1 ehh1 => ?_)
          have fc2 : hh1 90 = cO 7 [.int (iI (th)), .ref (91), .ref (92), .int (iI (sv.length)), .ref (93), .ref (94), .ref (95), .ref (96), .ref (97), .ref (98), .ref (99), .ref (100)] := by rw [ehh1, ueh_n (by decide)]; exact j0
          have fc3 : hh1 100 = cI 4 od2 := by rw [ehh1, ueh_n (by decide)]; exact hod5
          have fc4 : hh1 99 = cI 128 (ui fd2 s.2.1 s.1) := by rw [ehh1]; exact ueh_s
          have hM6 : MRep hh1 th S1 sv := hM5.scr fc4 fc3 (fun j hj _ => by rw [ehh1, ueh_n hj])
          have frm6 : FrM h hh1 := fun j hj => by rw [ehh1, ueh_n (by omega)]; exact frm5 j hj
          refine g_iinc (q := 136) (al2 := [some (.ref (90)), some (.int (iI (ls))), some (.int (iI (ordn S ls))), some (.int (iI (s.2.1 + 1))), some (.int (iI (s.1))), some (.int (iI (y))), none]) rfl (by decide) rfl rfl dX8_meets_133 rfl ?_
          refine g_iload (q := 138) rfl dX8_meets_136 rfl ?_
          refine g_sipush (q := 141) (by decide) dX8_meets_138 rfl ?_
          refine g_icmp_ne (t := 148) (q := 144) ⟨by omega, by omega⟩ ⟨by omega, by omega⟩ dX8_meets_141 rfl rfl (fun c141 => ?_) (fun c141 => ?_)
          · have cy : y = s.1 := by omega
            have en : nxC s.1 y = s.1 + 1 := by unfold nxC; rw [if_pos cy, if_pos (by omega)]
            have cz : ¬ s.1 + 1 = -1 := by omega
            refine g_aload_n (q := 149) rfl rfl dX8_meets_148 rfl ?_
            refine g_aload_n (q := 150) rfl rfl dX8_meets_149 rfl ?_
            refine g_get (q := 153) fX8_38r (by decide) fc2 rfl dX8_meets_150 rfl ?_
            refine g_iconst (q := 154) dX8_meets_153 rfl ?_
            refine g_iaload (q := 155) (by decide) fc3 (by decide) (by decide) (by decide) dX8_meets_154 rfl ?_
            rw [hk, hq]
            refine g_iload (q := 157) rfl dX8_meets_155 rfl ?_
            refine g_iconst (q := 158) dX8_meets_157 rfl ?_
            refine g_iadd (q := 159) dX8_meets_158 rfl ?_
            refine g_Vw (q := 162) (d' := 7) (i := 90) (av := [.int (iI ((q : Int))), .int (iI (s.1 + 1))]) (st := []) kvX8_142 (t_X8_asks l hh1 th S1 sv hM6 q hq4 (s.1 + 1) (by omega) (by omega)) (by decide) fc2 rfl (Nat.le_of_ble_eq_true rfl) ⟨(Nat.le_of_ble_eq_true rfl), (Nat.le_of_ble_eq_true rfl)⟩ ⟨(Nat.le_of_ble_eq_true rfl), (Nat.le_of_ble_eq_true rfl)⟩ rfl rfl dX8_meets_159 rfl (fun v h7 hp7 => ?_)
            obtain ⟨rfl, p5, p6⟩ := hp7
            refine g_istore (q := 164) (al2 := [some (.ref (90)), some (.int (iI (ls))), some (.int (iI (ordn S ls))), some (.int (iI (s.2.1 + 1))), some (.int (iI ((qry S1 q (s.1 + 1)).1))), some (.int (iI (y))), none]) (by decide) rfl rfl dX8_meets_162 rfl ?_
            refine g_goto (q := 191) dX8_meets_164 rfl ?_
            refine g_goto (q := 71) dX8_meets_191 rfl ?_
            refine g_drop (al2 := [some (.ref (90)), some (.int (iI (ls))), some (.int (iI (ordn S ls))), some (.int (iI (s.2.1 + 1))), some (.int (iI ((qry S1 q (s.1 + 1)).1))), none, none]) 5 rfl ?_
            have es : stp (ordf S ls) (ordn S ls) s = ((qry S1 q (s.1 + 1)).1, s.2.1 + 1, ui s.2.2.1 s.2.1 s.1, (qry S1 q (s.1 + 1)).2) := by rw [et]; unfold stp2; simp only []; simp only [en, if_neg cz, if_pos cy, hqt]
            rw [es] at hF1 ef1
            exact ih (r + 1, ((qry S1 q (s.1 + 1)).1, s.2.1 + 1, ui s.2.2.1 s.2.1 s.1, (qry S1 q (s.1 + 1)).2), ui fd2 s.2.1 s.1, h7) ⟨by omega, by omega, hF1, ef1, p5, (p6 99 (by decide) (by omega)).trans fc4, ag_ui ha _, (p6 100 (by decide) (by omega)).trans fc3, fun j hj => (p6 j (by omega) (by omega)).trans (frm6 j hj)⟩ (by show (64 - (r + 1)).toNat < (64 - r).toNat; omega)
          · have cy : y = s.1 := by omega
            have en : nxC s.1 y = -1 := by unfold nxC; rw [if_pos cy, if_neg (by omega)]
            refine g_iconst (q := 145) dX8_meets_144 rfl ?_
            refine g_goto (q := 162) dX8_meets_145 rfl ?_
            refine g_istore (q := 164) (al2 := [some (.ref (90)), some (.int (iI (ls))), some (.int (iI (ordn S ls))), some (.int (iI (s.2.1 + 1))), some (.int (iI (-1))), some (.int (iI (y))), none]) (by decide) rfl rfl dX8_meets_162 rfl ?_
            refine g_goto (q := 191) dX8_meets_164 rfl ?_
            refine g_goto (q := 71) dX8_meets_191 rfl ?_
            refine g_drop (al2 := [some (.ref (90)), some (.int (iI (ls))), some (.int (iI (ordn S ls))), some (.int (iI (s.2.1 + 1))), some (.int (iI (-1))), none, none]) 5 rfl ?_
            have es : stp (ordf S ls) (ordn S ls) s = (-1, s.2.1 + 1, ui s.2.2.1 s.2.1 s.1, S1) := by rw [et]; unfold stp2; simp only []; simp only [en, if_pos cy, if_true]
            rw [es] at hF1 ef1
            exact ih (r + 1, (-1, s.2.1 + 1, ui s.2.2.1 s.2.1 s.1, S1), ui fd2 s.2.1 s.1, hh1) ⟨by omega, by omega, hF1, ef1, hM6, fc4, ag_ui ha _, fc3, frm6⟩ (by show (64 - (r + 1)).toNat < (64 - r).toNat; omega)
      refine g_iload (q := 79) rfl dX8_meets_77 rfl ?_
      refine g_istore (q := 81) (al2 := [some (.ref (90)), some (.int (iI (ls))), some (.int (iI (ordn S ls))), some (.int (iI (s.2.1))), some (.int (iI (s.1))), some (.int (iI (s.1))), none]) (by decide) rfl rfl dX8_meets_79 rfl ?_
      refine g_iconst (q := 82) dX8_meets_81 rfl ?_
      refine g_istore (q := 84) (al2 := [some (.ref (90)), some (.int (iI (ls))), some (.int (iI (ordn S ls))), some (.int (iI (s.2.1))), some (.int (iI (s.1))), some (.int (iI (s.1))), some (.int (iI (1)))]) (by decide) rfl rfl dX8_meets_82 rfl ?_
      refine loopG (σ := Int × Int × ASt × EHp) (P := fun zz => match zz with | (k2, y, S1, h5) => G l noX mX8_meets 8 0 0 (wP (fun v h' => v = .int (iI (isc S ls).2.1) ∧ MRep h' th (isc S ls).2.2.2 sv ∧ (∃ fd, h' 99 = cI 128 fd ∧ Ag (isc S ls).2.1 fd (isc S ls).2.2.1) ∧ FrM h h')) 0 0 84 [some (.ref (90)), some (.int (iI (ls))), some (.int (iI (ordn S ls))), some (.int (iI (s.2.1))), some (.int (iI (s.1))), some (.int (iI (y))), some (.int (iI (k2)))] [] NN h5) (I := fun zz => match zz with | (k2, y, S1, h5) => 1 ≤ k2 ∧ k2 ≤ ordn S ls ∧ ask (ordf S ls) s.1 ((ordn S ls) - 1).toNat 1 s.1 s.2.2.2 = ask (ordf S ls) s.1 ((ordn S ls) - k2).toNat k2 y S1 ∧ MRep h5 th S1 sv ∧ (∀ j, j ≠ 91 → (j < 93 ∨ 98 < j) → h5 j = h4 j) ∧ (y = -1 ∨ (s.1 ≤ y ∧ y ≤ 511))) (fun zz => match zz with | (k2, y, S1, h5) => ((ordn S ls) - k2).toNat) ?_ (1, s.1, s.2.2.2, h4) ⟨Int.le_refl _, n1, rfl, hM4, fun _ _ _ => rfl, Or.inr ⟨Int.le_refl _, by omega⟩⟩
      rintro ⟨k2, y, S1, h5⟩ hI ih
      obtain ⟨a1, a2, ea, hM5, fr5, hy⟩ := hI
      obtain ⟨w5, pst5, bg5, mn5, lz5, j0, -⟩ := id hM5
      have hod5 : h5 100 = _ := (fr5 100 (by decide) (by omega)).trans hod
      refine g_iload (q := 86) rfl dX8_meets_84 rfl ?_
      refine g_iload_n (q := 87) rfl rfl dX8_meets_86 rfl ?_
      refine g_icmp_ge (t := 118) (q := 90) ⟨by omega, by omega⟩ ⟨by omega, by omega⟩ dX8_meets_87 rfl rfl (fun c87 => ?_) (fun c87 => ?_)
      · have ee : ask (ordf S ls) s.1 (ordn S ls - k2).toNat k2 y S1 = (y, S1) := by rw [show (ordn S ls - k2).toNat = 0 by omega]; rfl
        refine g_drop (al2 := [some (.ref (90)), some (.int (iI (ls))), some (.int (iI (ordn S ls))), some (.int (iI (s.2.1))), some (.int (iI (s.1))), some (.int (iI (y))), none]) 6 rfl ?_
        exact k118 y S1 h5 ⟨ea.trans ee, hy, hM5, fr5⟩
      · refine g_iload (q := 92) rfl dX8_meets_90 rfl ?_
        refine g_iload (q := 94) rfl dX8_meets_92 rfl ?_
        refine g_icmp_ne (t := 118) (q := 97) ⟨by omega, by omega⟩ ⟨by omega, by omega⟩ dX8_meets_94 rfl rfl (fun c94 => ?_) (fun c94 => ?_)
        · have ee : ask (ordf S ls) s.1 (ordn S ls - k2).toNat k2 y S1 = (y, S1) := ask_n (by omega) _
          refine g_drop (al2 := [some (.ref (90)), some (.int (iI (ls))), some (.int (iI (ordn S ls))), some (.int (iI (s.2.1))), some (.int (iI (s.1))), some (.int (iI (y))), none]) 6 rfl ?_
          exact k118 y S1 h5 ⟨ea.trans ee, hy, hM5, fr5⟩
        · have ey : y = s.1 := by omega
          have ok := ho k2 (by omega) (by omega)
          have hk2 := d2 k2 (by omega) (by omega)
          obtain ⟨q2, hq2⟩ : ∃ q2 : Nat, ordf S ls k2 = q2 := ⟨(ordf S ls k2).toNat, by omega⟩
          have hLS1 := hM5.LS
          refine g_aload_n (q := 98) rfl rfl dX8_meets_97 rfl ?_
          refine g_aload_n (q := 99) rfl rfl dX8_meets_98 rfl ?_
          refine g_get (q := 102) fX8_38r (by decide) j0 rfl dX8_meets_99 rfl ?_
          refine g_iload (q := 104) rfl dX8_meets_102 rfl ?_
          refine g_iaload (q := 105) (by decide) hod5 (by omega) (by omega) (by decide) dX8_meets_104 rfl ?_
          rw [hk2, hq2]
          refine g_iload (q := 107) rfl dX8_meets_105 rfl ?_
          refine g_Vw (q := 110) (d' := 7) (i := 90) (av := [.int (iI ((q2 : Int))), .int (iI (s.1))]) (st := []) kvX8_142 (t_X8_asks l h5 th S1 sv hM5 q2 (by omega) s.1 (by omega) (by omega)) (by decide) j0 rfl (Nat.le_of_ble_eq_true rfl) ⟨(Nat.le_of_ble_eq_true rfl), (Nat.le_of_ble_eq_true rfl)⟩ ⟨(Nat.le_of_ble_eq_true rfl), (Nat.le_of_ble_eq_true rfl)⟩ rfl rfl dX8_meets_107 rfl (fun v h6 hp => ?_)
          obtain ⟨rfl, p3, p4⟩ := hp
          refine g_istore (q := 112) (al2 := [some (.ref (90)), some (.int (iI (ls))), some (.int (iI (ordn S ls))), some (.int (iI (s.2.1))), some (.int (iI (s.1))), some (.int (iI ((qry S1 q2 s.1).1))), some (.int (iI (k2)))]) (by decide) rfl rfl dX8_meets_110 rfl ?_
          refine g_iinc (q := 115) (al2 := [some (.ref (90)), some (.int (iI (ls))), some (.int (iI (ordn S ls))), some (.int (iI (s.2.1))), some (.int (iI (s.1))), some (.int (iI ((qry S1 q2 s.1).1))), some (.int (iI (k2 + 1)))]) rfl (by decide) rfl rfl dX8_meets_112 rfl ?_
          refine g_goto (q := 84) dX8_meets_115 rfl ?_
          exact ih (k2 + 1, (qry S1 q2 s.1).1, (qry S1 q2 s.1).2, h6) ⟨by omega, by omega, by
              rw [ea, show (ordn S ls - k2).toNat = (ordn S ls - (k2 + 1)).toNat + 1 by omega, ey, ask_y, hq2, Int.toNat_natCast], p3, fun t ht h3 => (p4 t ht h3).trans (fr5 t ht h3), by
              rcases qry_rng (x := s.1) (hLS1 q2 (by omega)) with z | ⟨p, -, -, -, z, -, z2⟩
              · exact Or.inl z
              · exact Or.inr ⟨z, z2⟩⟩ (by show (ordn S ls - (k2 + 1)).toNat < (ordn S ls - k2).toNat; omega)
  · obtain ⟨p, hp4⟩ : ∃ p : Nat, (k : Int) % 4 = p := ⟨((k : Int) % 4).toNat, by omega⟩
    have hpt : ((k : Int) % 4).toNat = p := by rw [hp4, Int.toNat_natCast]
    have hp5 : p < 4 := by omega
    obtain ⟨x1, x2, x3⟩ := hW.1 p hp5
    have x4 := x2.1
    have x5 := x2.2.1
    have pw : (2 : Int) ^ ((p : Int)).toNat ≤ 512 := p2_512 (by omega) (by omega)
    have dv := div2_nn (a := ls) (w := (p : Int)) (by omega)
    have oi := oP_iff (S := S) (ls := ls) (k := k)
    rw [hpt] at oi
    refine g_iload_n (q := 12) rfl rfl dX8_meets_11 rfl ?_
    refine g_iconst (q := 13) dX8_meets_12 rfl ?_
    refine g_irem (q := 14) (by omega) (by omega) (by omega) (by omega) dX8_meets_13 rfl ?_
    rw [hp4]
    refine g_istore (q := 16) (al2 := [some (.ref (90)), some (.int (iI (ls))), some (.int (iI (n))), some (.int (iI (k))), some (.int (iI ((p : Int)))), none, none]) (by decide) rfl rfl dX8_meets_14 rfl ?_
    refine g_iload_n (q := 17) rfl rfl dX8_meets_16 rfl ?_
    refine g_iload (q := 19) rfl dX8_meets_17 rfl ?_
    refine g_ishr (q := 20) (by omega) (by omega) (by omega) (by omega) dX8_meets_19 rfl ?_
    refine g_iconst (q := 21) dX8_meets_20 rfl ?_
    refine g_iand1 (q := 22) (by omega) (by omega) dX8_meets_21 rfl ?_
    refine g_iconst (q := 23) dX8_meets_22 rfl ?_
    refine g_icmp_ne (t := 50) (q := 26) ⟨by omega, by omega⟩ ⟨by omega, by omega⟩ dX8_meets_23 rfl rfl (fun c23 => ?_) (fun c23 => ?_)
    · have hno : ¬ oP S ls k = true := fun z => by have := oi.mp z; rw [Int.toNat_natCast] at *; omega
      have es := en_f hno
      refine g_iinc (q := 53) (al2 := [some (.ref (90)), some (.int (iI (ls))), some (.int (iI (n))), some (.int (iI (k + 1))), some (.int (iI ((p : Int)))), none, none]) rfl (by decide) rfl rfl dX8_meets_50 rfl ?_
      refine g_goto (q := 4) dX8_meets_53 rfl ?_
      refine g_drop (al2 := [some (.ref (90)), some (.int (iI (ls))), some (.int (iI (n))), some (.int (iI (k + 1))), none, none, none]) 4 rfl ?_
      exact ih (k + 1, n, od2, h2) ⟨by show k + 1 ≤ 260; omega, by rw [es]; exact en1, by rw [es]; exact en2, hr, fr⟩ (by show 260 - (k + 1) < 260 - k; omega)
    · refine g_aload_n (q := 27) rfl rfl dX8_meets_26 rfl ?_
      refine g_get (q := 30) fX8_7r (by decide) q0 rfl dX8_meets_27 rfl ?_
      refine g_iload (q := 32) rfl dX8_meets_30 rfl ?_
      refine g_iaload (q := 33) (by decide) q1 (by omega) (by omega) (by decide) dX8_meets_32 rfl ?_
      rw [x1]
      refine g_iload_n (q := 34) rfl rfl dX8_meets_33 rfl ?_
      refine g_iconst (q := 35) dX8_meets_34 rfl ?_
      refine g_idiv (q := 36) (by omega) (by omega) (by omega) (by omega) dX8_meets_35 rfl ?_
      refine g_icmp_ne (t := 50) (q := 39) ⟨by omega, by omega⟩ ⟨by omega, by omega⟩ dX8_meets_36 rfl rfl (fun c36 => ?_) (fun c36 => ?_)
      · have hno : ¬ oP S ls k = true := fun z => by have := oi.mp z; rw [Int.toNat_natCast] at *; omega
        have es := en_f hno
        refine g_iinc (q := 53) (al2 := [some (.ref (90)), some (.int (iI (ls))), some (.int (iI (n))), some (.int (iI (k + 1))), some (.int (iI ((p : Int)))), none, none]) rfl (by decide) rfl rfl dX8_meets_50 rfl ?_
        refine g_goto (q := 4) dX8_meets_53 rfl ?_
        refine g_drop (al2 := [some (.ref (90)), some (.int (iI (ls))), some (.int (iI (n))), some (.int (iI (k + 1))), none, none, none]) 4 rfl ?_
        exact ih (k + 1, n, od2, h2) ⟨by show k + 1 ≤ 260; omega, by rw [es]; exact en1, by rw [es]; exact en2, hr, fr⟩ (by show 260 - (k + 1) < 260 - k; omega)
      · have hyes : oP S ls k = true := oi.mpr ⟨by rw [Int.toNat_natCast] at *; omega, by omega⟩
        have es := en_t hyes
        have eu := en_up2 (p := oP S ls) (show k + 1 ≤ 260 by omega)
        rw [es] at eu
        have n3 : n < 4 := by
          have : ordn S ls = (en (oP S ls) 260).1 := rfl
          simp only [] at eu
          omega
        refine g_aload_n (q := 40) rfl rfl dX8_meets_39 rfl ?_
        refine g_get (q := 43) fX8_38r (by decide) q0 rfl dX8_meets_40 rfl ?_
        refine g_iload_n (q := 44) rfl rfl dX8_meets_43 rfl ?_
        refine g_iload (q := 46) rfl dX8_meets_44 rfl ?_
        refine g_iastore (q := 47) (by decide) hr (by omega) (by omega) (by decide) dX8_meets_46 rfl ?_
        refine hp_in (fun hh5 ehh5 => ?_)
        have fc6 : hh5 90 = cO 7 [.int (iI (th)), .ref (91), .ref (92), .int (iI (sv.length)), .ref (93), .ref (94), .ref (95), .ref (96), .ref (97), .ref (98), .ref (99), .ref (100)] := by rw [ehh5, ueh_n (by decide)]; exact q0
        have fc7 : hh5 91 = cI 272 w := by rw [ehh5, ueh_n (by decide)]; exact q1
        have fc8 : hh5 100 = cI 4 (ui od2 n ((p : Int))) := by rw [ehh5]; exact ueh_s
        refine g_iinc (q := 50) (al2 := [some (.ref (90)), some (.int (iI (ls))), some (.int (iI (n + 1))), some (.int (iI (k))), some (.int (iI ((p : Int)))), none, none]) rfl (by decide) rfl rfl dX8_meets_47 rfl ?_
        refine g_iinc (q := 53) (al2 := [some (.ref (90)), some (.int (iI (ls))), some (.int (iI (n + 1))), some (.int (iI (k + 1))), some (.int (iI ((p : Int)))), none, none]) rfl (by decide) rfl rfl dX8_meets_50 rfl ?_
        refine g_goto (q := 4) dX8_meets_53 rfl ?_
        refine g_drop (al2 := [some (.ref (90)), some (.int (iI (ls))), some (.int (iI (n + 1))), some (.int (iI (k + 1))), none, none, none]) 4 rfl ?_
        exact ih (k + 1, n + 1, ui od2 n ((p : Int)), hh5) ⟨by show k + 1 ≤ 260; omega, by rw [es, en1], by
            rw [es, ← en1]
            intro i i0 i1
            show ui od2 n p i = ui _ n k i % 4
            unfold ui
            by_cases e : i = n
            · rw [if_pos e, if_pos e]; exact hp4.symm
            · rw [if_neg e, if_neg e]; exact en2 i i0 (by omega), fc8, fun j hj => by rw [ehh5, ueh_n hj]; exact fr j hj⟩ (by show 260 - (k + 1) < 260 - k; omega)
set_option maxRecDepth 4000 in
theorem t_X8_writes (l : Launch) (h : EHp) (th : Int) (S : ASt) (sv : List ASt) (hM : MRep h th S sv) (t : Nat) (ht : t < 4) (n : Int) (f fd1 : Int → Int) (hfd : h 99 = cI 128 fd1) (hag : Ag n fd1 f) (hO : LOk n f) : CT l mX8_writes 2 0 0 [.ref (90), .int (iI (t)), .int (iI (n))] NN h (wP (fun v h' => v = .int (iI n) ∧ MRep h' th (wrL S t n f) sv ∧ FrM h h')) := by
  obtain ⟨w, pst, bg, mn, lz, hA, ⟨m1, m2, m3, m4, m5⟩, ⟨⟨cs, s1⟩, ⟨ct, s2⟩, ⟨nx, s3⟩, ⟨fd, s4⟩, ⟨od, s5⟩⟩, hW, hP, hY⟩ := id hM
  obtain ⟨o1, o2, o3, o4⟩ := id hO
  refine CT.of (by decide) (Nat.le_of_ble_eq_true rfl) ?_
  refine g_al (al2 := [some (.ref (90)), some (.int (iI (t))), some (.int (iI (n))), none]) rfl ?_
  refine g_aload_n (q := 1) rfl rfl dX8_writes_0 rfl ?_
  refine g_iload_n (q := 2) rfl rfl dX8_writes_1 rfl ?_
  refine g_Vv (q := 5) (d' := 1) (i := 90) (av := [.int (iI (t))]) (st := []) kvX8_75 (t_X8_changes l h th S sv hM t ht) (by decide) hA rfl (Nat.le_of_ble_eq_true rfl) ⟨(Nat.le_of_ble_eq_true rfl), (Nat.le_of_ble_eq_true rfl)⟩ ⟨(Nat.le_of_ble_eq_true rfl), (Nat.le_of_ble_eq_true rfl)⟩ rfl rfl dX8_writes_2 rfl (fun h1 hp => ?_)
  obtain ⟨hM1, fr1⟩ := hp
  obtain ⟨w1, pst1, bg1, mn1, lz1, ⟨a1, ⟨b1, -⟩, -⟩, -⟩ := id hM1
  refine g_aload_n (q := 6) rfl rfl dX8_writes_5 rfl ?_
  refine g_get (q := 9) fX8_7r (by decide) a1 rfl dX8_writes_6 rfl ?_
  refine g_iload_n (q := 10) rfl rfl dX8_writes_9 rfl ?_
  refine g_iconst (q := 11) dX8_writes_10 rfl ?_
  refine g_iastore (q := 12) (by decide) b1 (by omega) (by omega) (by decide) dX8_writes_11 rfl ?_
  refine hp_in (fun hh1 ehh1 => ?_)
  have fc2 : hh1 90 = cO 7 [.int (iI (th)), .ref (91), .ref (92), .int (iI (sv.length)), .ref (93), .ref (94), .ref (95), .ref (96), .ref (97), .ref (98), .ref (99), .ref (100)] := by rw [ehh1, ueh_n (by decide)]; exact a1
  have fc3 : hh1 91 = cI 272 (ui w1 t 0) := by rw [ehh1]; exact ueh_s
  have hM2 : MRL hh1 th (setL (chg S t) t 0 f) sv t := MRL.nil f ht hM1 b1 fc3 (fun j hj => by rw [ehh1, ueh_n hj])
  have fd2 : hh1 99 = cI 128 fd1 := by rw [ehh1, ueh_n (by decide)]; exact (fr1 99 (by decide) (by decide)).trans hfd
  have fr2 : FrM h hh1 := fun j hj => by rw [ehh1, ueh_n (by omega)]; exact fr1 j (by omega) (by omega)
  refine g_iconst (q := 13) dX8_writes_12 rfl ?_
  refine g_istore_n (q := 14) (al2 := [some (.ref (90)), some (.int (iI (t))), some (.int (iI (n))), some (.int (iI (0)))]) rfl (by decide) rfl rfl dX8_writes_13 rfl ?_
  refine loopG (σ := Int × EHp) (P := fun zz => match zz with | (k, h3) => G l noX mX8_writes 2 0 0 (wP (fun v h' => v = .int (iI n) ∧ MRep h' th (wrL S t n f) sv ∧ FrM h h')) 0 0 14 [some (.ref (90)), some (.int (iI (t))), some (.int (iI (n))), some (.int (iI (k)))] [] NN h3) (I := fun zz => match zz with | (k, h3) => 0 ≤ k ∧ k ≤ n ∧ MRL h3 th (setL (chg S t) t k f) sv t ∧ h3 99 = cI 128 fd1 ∧ FrM h h3) (fun zz => match zz with | (k, h3) => (n - k).toNat) ?_ (0, hh1) ⟨Int.le_refl _, o1, hM2, fd2, fr2⟩
  rintro ⟨k, h3⟩ hI ih
  obtain ⟨k0, k1, hM3, fd3, fr3⟩ := hI
  obtain ⟨w3, pst3, bg3, mn3, lz3, ⟨a3, ⟨b3, -⟩, -⟩, -⟩ := id hM3
  refine g_iload_n (q := 15) rfl rfl dX8_writes_14 rfl ?_
  refine g_iload_n (q := 16) rfl rfl dX8_writes_15 rfl ?_
  refine g_icmp_ge (t := 36) (q := 19) ⟨by omega, by omega⟩ ⟨by omega, by omega⟩ dX8_writes_16 rfl rfl (fun c16 => ?_) (fun c16 => ?_)
  · have ek : k = n := by omega
    subst ek
    refine g_iload_n (q := 37) rfl rfl dX8_writes_36 rfl ?_
    exact g_ireturn (fun z => NN_f z) (Nat.le_of_ble_eq_true rfl) (Nat.le_of_ble_eq_true rfl) dX8_writes_37 rfl (wP_in ⟨rfl, hM3.rep, fr3⟩)
  · refine g_aload_n (q := 20) rfl rfl dX8_writes_19 rfl ?_
    refine g_iload_n (q := 21) rfl rfl dX8_writes_20 rfl ?_
    refine g_aload_n (q := 22) rfl rfl dX8_writes_21 rfl ?_
    refine g_get (q := 25) fX8_35r (by decide) a3 rfl dX8_writes_22 rfl ?_
    refine g_iload_n (q := 26) rfl rfl dX8_writes_25 rfl ?_
    refine g_iaload (q := 27) (by decide) fd3 (by omega) (by omega) (by decide) dX8_writes_26 rfl ?_
    rw [hag k (by omega) (by omega)]
    refine g_Vv (q := 30) (d' := 0) (i := 90) (av := [.int (iI (t)), .int (iI (f k))]) (st := []) kvX8_78 (t_X8_add l h3 th (chg S t) sv t ht k f hM3 (hO.low (by omega) (by omega))) (by decide) a3 rfl (Nat.le_of_ble_eq_true rfl) ⟨(Nat.le_of_ble_eq_true rfl), (Nat.le_of_ble_eq_true rfl)⟩ ⟨(Nat.le_of_ble_eq_true rfl), (Nat.le_of_ble_eq_true rfl)⟩ rfl rfl dX8_writes_27 rfl (fun h4 hp => ?_)
    obtain ⟨hM4, fr4⟩ := hp
    refine g_iinc (q := 33) (al2 := [some (.ref (90)), some (.int (iI (t))), some (.int (iI (n))), some (.int (iI (k + 1)))]) rfl (by decide) rfl rfl dX8_writes_30 rfl ?_
    refine g_goto (q := 14) dX8_writes_33 rfl ?_
    exact ih (k + 1, h4) ⟨by omega, by omega, hM4, (fr4 99 (by decide)).trans fd3, fun j hj => (fr4 j (by omega)).trans (fr3 j hj)⟩ (by show (n - (k + 1)).toNat < (n - k).toNat; omega)
