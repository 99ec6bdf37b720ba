/-! ===== the reference: queries ===== -/
set_option maxRecDepth 4000 in
theorem t_X8_readsFor (l : Launch) (h : EHp) (i : Nat) (c : Int) (f : Int → Int) (hL : MLay h i c f) (k : Nat) (hk : k < pn c f) (x : Int) (x5 : x ≤ 511) (hx1 : f (pb c f k) < x) (a : Int) (ha : a = cb c f x) (a0 : pb c f k ≤ a) (a1 : a < pb c f (k + 1)) (hxa : x ≤ f a) : CT l mX8_readsFor 5 0 0 [.ref (90), .int (iI (i)), .int (iI (k)), .int (iI (x)), .int (iI (a))] NN h (rP (.int (iI (rdI c f (fct f (pb c f k) (pb c f (k + 1)) 0) (fct f (pb c f k) (pb c f (k + 1)) 2) (fct f (pb c f k) (pb c f (k + 1)) 5) x a))) h) := by
  have hD := hL.1
  obtain ⟨bg, mn, hb, hm, em, hbg⟩ := hL.2
  obtain ⟨th, sl, w, hA, hw, hi, hc, hO, hd⟩ := id hD
  obtain ⟨o1, o2, o3, o4⟩ := id hO
  have p6 := pn_64 hO
  obtain ⟨k0, k1, k2⟩ := hL.pb hk
  have g := hO.wid k0 k1 k2
  have ew : wd f (pb c f k) (pb c f (k + 1)) = f (pb c f (k + 1) - 1) - f (pb c f k) + 1 := rfl
  have kr := knd_rng (n := pb c f (k + 1) - pb c f k) (u := wd f (pb c f k) (pb c f (k + 1)))
  have fr_ := o3 (pb c f k) (by omega) (by omega)
  obtain ⟨w0, w9⟩ := fct5_rng hO k0 k1 k2
  have ra := o3 a (by omega) (by omega)
  have rk : fct f (pb c f k) (pb c f (k + 1)) 0 = knd (pb c f (k + 1) - pb c f k) (wd f (pb c f k) (pb c f (k + 1))) := rfl
  have r2 : fct f (pb c f k) (pb c f (k + 1)) 2 = f (pb c f k) := rfl
  refine CT.of (by decide) (Nat.le_of_ble_eq_true rfl) ?_
  refine g_al (al2 := [some (.ref (90)), some (.int (iI (i))), some (.int (iI (k))), some (.int (iI (x))), some (.int (iI (a))), none, none, none, none, none]) rfl ?_
  refine g_aload_n (q := 1) rfl rfl dX8_readsFor_0 rfl ?_
  refine g_iload_n (q := 2) rfl rfl dX8_readsFor_1 rfl ?_
  refine g_iload_n (q := 3) rfl rfl dX8_readsFor_2 rfl ?_
  refine g_Vr (q := 6) (d' := 1) (i := 90) (av := [.int (iI (i)), .int (iI (k))]) (st := []) (v := .int (iI (f (pb c f k)))) kvX8_102 (t_X8_firstIn l h i c f hL k hk) (by decide) hA rfl (Nat.le_of_ble_eq_true rfl) ⟨(Nat.le_of_ble_eq_true rfl), (Nat.le_of_ble_eq_true rfl)⟩ ⟨(Nat.le_of_ble_eq_true rfl), (Nat.le_of_ble_eq_true rfl)⟩ rfl rfl dX8_readsFor_3 rfl ?_
  refine g_istore (q := 8) (al2 := [some (.ref (90)), some (.int (iI (i))), some (.int (iI (k))), some (.int (iI (x))), some (.int (iI (a))), some (.int (iI (f (pb c f k)))), none, none, none, none]) (by decide) rfl rfl dX8_readsFor_6 rfl ?_
  refine g_aload_n (q := 9) rfl rfl dX8_readsFor_8 rfl ?_
  refine g_iload_n (q := 10) rfl rfl dX8_readsFor_9 rfl ?_
  refine g_iload_n (q := 11) rfl rfl dX8_readsFor_10 rfl ?_
  refine g_Vr (q := 14) (d' := 3) (i := 90) (av := [.int (iI (i)), .int (iI (k))]) (st := []) (v := .int (iI (knd (pb c f (k + 1) - pb c f k) (wd f (pb c f k) (pb c f (k + 1)))))) kvX8_111 (t_X8_kindIn l h i c f hL k hk) (by decide) hA rfl (Nat.le_of_ble_eq_true rfl) ⟨(Nat.le_of_ble_eq_true rfl), (Nat.le_of_ble_eq_true rfl)⟩ ⟨(Nat.le_of_ble_eq_true rfl), (Nat.le_of_ble_eq_true rfl)⟩ rfl rfl dX8_readsFor_11 rfl ?_
  refine g_istore (q := 16) (al2 := [some (.ref (90)), some (.int (iI (i))), some (.int (iI (k))), some (.int (iI (x))), some (.int (iI (a))), some (.int (iI (f (pb c f k)))), some (.int (iI (knd (pb c f (k + 1) - pb c f k) (wd f (pb c f k) (pb c f (k + 1)))))), none, none, none]) (by decide) rfl rfl dX8_readsFor_14 rfl ?_
  refine g_iload (q := 18) rfl dX8_readsFor_16 rfl ?_
  refine g_iconst (q := 19) dX8_readsFor_18 rfl ?_
  refine g_icmp_ge (t := 55) (q := 22) ⟨by omega, by omega⟩ ⟨by omega, by omega⟩ dX8_readsFor_19 rfl rfl (fun c19 => ?_) (fun c19 => ?_)
  · have lx := lowx (g := f (pb c f k)) (w := fct f (pb c f k) (pb c f (k + 1)) 5) (x := x) (by omega)
    obtain ⟨b1, b2, b3, b4⟩ := cb_is f (f (pb c f k) + (x - f (pb c f k)) / 2 ^ (fct f (pb c f k) (pb c f (k + 1)) 5).toNat * 2 ^ (fct f (pb c f k) (pb c f (k + 1)) 5).toNat) o1
    have Bk : pb c f k ≤ cb c f (f (pb c f k) + (x - f (pb c f k)) / 2 ^ (fct f (pb c f k) (pb c f (k + 1)) 5).toNat * 2 ^ (fct f (pb c f k) (pb c f (k + 1)) 5).toNat) := by
      rcases Int.lt_or_le (cb c f (f (pb c f k) + (x - f (pb c f k)) / 2 ^ (fct f (pb c f k) (pb c f (k + 1)) 5).toNat * 2 ^ (fct f (pb c f k) (pb c f (k + 1)) 5).toNat)) (pb c f k) with z | z
      · have := b4 (by omega)
        have := o4 (cb c f (f (pb c f k) + (x - f (pb c f k)) / 2 ^ (fct f (pb c f k) (pb c f (k + 1)) 5).toNat * 2 ^ (fct f (pb c f k) (pb c f (k + 1)) 5).toNat)) (pb c f k) b1 z (by omega)
        omega
      · exact z
    have Ba : cb c f (f (pb c f k) + (x - f (pb c f k)) / 2 ^ (fct f (pb c f k) (pb c f (k + 1)) 5).toNat * 2 ^ (fct f (pb c f k) (pb c f (k + 1)) 5).toNat) ≤ a := by
      rcases Int.lt_or_le a (cb c f (f (pb c f k) + (x - f (pb c f k)) / 2 ^ (fct f (pb c f k) (pb c f (k + 1)) 5).toNat * 2 ^ (fct f (pb c f k) (pb c f (k + 1)) 5).toNat)) with z | z
      · have := b3 a (by omega) z
        omega
      · exact z
    have dx := div2_nn (a := x - f (pb c f k)) (w := fct f (pb c f k) (pb c f (k + 1)) 5) (by omega)
    refine g_aload_n (q := 56) rfl rfl dX8_readsFor_55 rfl ?_
    refine g_iload_n (q := 57) rfl rfl dX8_readsFor_56 rfl ?_
    refine g_iload_n (q := 58) rfl rfl dX8_readsFor_57 rfl ?_
    refine g_Vr (q := 61) (d' := 4) (i := 90) (av := [.int (iI (i)), .int (iI (k))]) (st := []) (v := .int (iI (fct f (pb c f k) (pb c f (k + 1)) 5))) kvX8_117 (t_X8_lowIn l h i c f hL k hk) (by decide) hA rfl (Nat.le_of_ble_eq_true rfl) ⟨(Nat.le_of_ble_eq_true rfl), (Nat.le_of_ble_eq_true rfl)⟩ ⟨(Nat.le_of_ble_eq_true rfl), (Nat.le_of_ble_eq_true rfl)⟩ rfl rfl dX8_readsFor_58 rfl ?_
    refine g_istore (q := 63) (al2 := [some (.ref (90)), some (.int (iI (i))), some (.int (iI (k))), some (.int (iI (x))), some (.int (iI (a))), some (.int (iI (f (pb c f k)))), some (.int (iI (knd (pb c f (k + 1) - pb c f k) (wd f (pb c f k) (pb c f (k + 1)))))), some (.int (iI (fct f (pb c f k) (pb c f (k + 1)) 5))), none, none]) (by decide) rfl rfl dX8_readsFor_61 rfl ?_
    refine g_iconst (q := 64) dX8_readsFor_63 rfl ?_
    refine g_istore (q := 66) (al2 := [some (.ref (90)), some (.int (iI (i))), some (.int (iI (k))), some (.int (iI (x))), some (.int (iI (a))), some (.int (iI (f (pb c f k)))), some (.int (iI (knd (pb c f (k + 1) - pb c f k) (wd f (pb c f k) (pb c f (k + 1)))))), some (.int (iI (fct f (pb c f k) (pb c f (k + 1)) 5))), some (.int (iI (1))), none]) (by decide) rfl rfl dX8_readsFor_64 rfl ?_
    refine g_aload_n (q := 67) rfl rfl dX8_readsFor_66 rfl ?_
    refine g_iload_n (q := 68) rfl rfl dX8_readsFor_67 rfl ?_
    refine g_iload_n (q := 69) rfl rfl dX8_readsFor_68 rfl ?_
    refine g_Vr (q := 72) (d' := 0) (i := 90) (av := [.int (iI (i)), .int (iI (k))]) (st := []) (v := .int (iI (pb c f k))) kvX8_96 (t_X8_beginOf l h i c f hL k (by omega)) (by decide) hA rfl (Nat.le_of_ble_eq_true rfl) ⟨(Nat.le_of_ble_eq_true rfl), (Nat.le_of_ble_eq_true rfl)⟩ ⟨(Nat.le_of_ble_eq_true rfl), (Nat.le_of_ble_eq_true rfl)⟩ rfl rfl dX8_readsFor_69 rfl ?_
    refine g_istore (q := 74) (al2 := [some (.ref (90)), some (.int (iI (i))), some (.int (iI (k))), some (.int (iI (x))), some (.int (iI (a))), some (.int (iI (f (pb c f k)))), some (.int (iI (knd (pb c f (k + 1) - pb c f k) (wd f (pb c f k) (pb c f (k + 1)))))), some (.int (iI (fct f (pb c f k) (pb c f (k + 1)) 5))), some (.int (iI (1))), some (.int (iI (pb c f k)))]) (by decide) rfl rfl dX8_readsFor_72 rfl ?_
    refine loopG (σ := Int × Int) (P := fun zz => match zz with | (t, n) => G l noX mX8_readsFor 5 0 0 (rP (.int (iI (rdI c f (fct f (pb c f k) (pb c f (k + 1)) 0) (fct f (pb c f k) (pb c f (k + 1)) 2) (fct f (pb c f k) (pb c f (k + 1)) 5) x a))) h) 0 0 74 [some (.ref (90)), some (.int (iI (i))), some (.int (iI (k))), some (.int (iI (x))), some (.int (iI (a))), some (.int (iI (f (pb c f k)))), some (.int (iI (knd (pb c f (k + 1) - pb c f k) (wd f (pb c f k) (pb c f (k + 1)))))), some (.int (iI (fct f (pb c f k) (pb c f (k + 1)) 5))), some (.int (iI (n))), some (.int (iI (t)))] [] NN h) (I := fun zz => match zz with | (t, n) => pb c f k ≤ t ∧ t ≤ a + 1 ∧ n = 1 + (if t ≤ cb c f (f (pb c f k) + (x - f (pb c f k)) / 2 ^ (fct f (pb c f k) (pb c f (k + 1)) 5).toNat * 2 ^ (fct f (pb c f k) (pb c f (k + 1)) 5).toNat) then 0 else t - cb c f (f (pb c f k) + (x - f (pb c f k)) / 2 ^ (fct f (pb c f k) (pb c f (k + 1)) 5).toNat * 2 ^ (fct f (pb c f k) (pb c f (k + 1)) 5).toNat))) (fun zz => match zz with | (t, n) => (a + 1 - t).toNat) ?_ (pb c f k, 1) ⟨Int.le_refl _, by omega, by rw [if_pos Bk]; rfl⟩
    rintro ⟨t, n⟩ hI ih
    obtain ⟨t0, t1, en⟩ := hI
    refine g_iload (q := 76) rfl dX8_readsFor_74 rfl ?_
    refine g_iload (q := 78) rfl dX8_readsFor_76 rfl ?_
    refine g_icmp_gt (t := 120) (q := 81) ⟨by omega, by omega⟩ ⟨by omega, by omega⟩ dX8_readsFor_78 rfl rfl (fun c78 => ?_) (fun c78 => ?_)
    · have et : t = a + 1 := by omega
      have er : rdI c f (fct f (pb c f k) (pb c f (k + 1)) 0) (fct f (pb c f k) (pb c f (k + 1)) 2) (fct f (pb c f k) (pb c f (k + 1)) 5) x a = n := by
        unfold rdI
        rw [rk, r2, if_neg (by omega), if_pos (by omega), en, if_neg (by omega)]
        omega
      rw [er]
      refine g_iload (q := 122) rfl dX8_readsFor_120 rfl ?_
      exact g_ireturn (fun z => NN_f z) (Nat.le_of_ble_eq_true rfl) (Nat.le_of_ble_eq_true rfl) dX8_readsFor_122 rfl rP_in
    · have rt := o3 t (by omega) (by omega)
      have r3 : f (pb c f k) ≤ f t := by
        by_cases z : t = pb c f k
        · rw [z]; exact Int.le_refl _
        · exact Int.le_of_lt (o4 (pb c f k) t (by omega) (by omega) (by omega))
      have dt := div2_nn (a := f t - f (pb c f k)) (w := fct f (pb c f k) (pb c f (k + 1)) 5) (by omega)
      have hg := hi_ge hO (g := f (pb c f k)) (w := fct f (pb c f k) (pb c f (k + 1)) 5) (x := x) (t := t) (by omega) (by omega)
      refine g_iload (q := 83) rfl dX8_readsFor_81 rfl ?_
      refine g_aload_n (q := 84) rfl rfl dX8_readsFor_83 rfl ?_
      refine g_iload_n (q := 85) rfl rfl dX8_readsFor_84 rfl ?_
      refine g_iload (q := 87) rfl dX8_readsFor_85 rfl ?_
      refine g_Vr (q := 90) (d' := 0) (i := 90) (av := [.int (iI (i)), .int (iI (t))]) (st := [.int (iI (n))]) (v := .int (iI (f t))) kvX8_56 (t_X8_doc l h i c f hD t (by omega) (by omega)) (by decide) hA rfl (Nat.le_of_ble_eq_true rfl) ⟨(Nat.le_of_ble_eq_true rfl), (Nat.le_of_ble_eq_true rfl)⟩ ⟨(Nat.le_of_ble_eq_true rfl), (Nat.le_of_ble_eq_true rfl)⟩ rfl rfl dX8_readsFor_87 rfl ?_
      refine g_iload (q := 92) rfl dX8_readsFor_90 rfl ?_
      refine g_isub (q := 93) dX8_readsFor_92 rfl ?_
      refine g_iload (q := 95) rfl dX8_readsFor_93 rfl ?_
      refine g_ishr (q := 96) (by omega) (by omega) (by omega) (by omega) dX8_readsFor_95 rfl ?_
      refine g_iload_n (q := 97) rfl rfl dX8_readsFor_96 rfl ?_
      refine g_iload (q := 99) rfl dX8_readsFor_97 rfl ?_
      refine g_isub (q := 100) dX8_readsFor_99 rfl ?_
      refine g_iload (q := 102) rfl dX8_readsFor_100 rfl ?_
      refine g_ishr (q := 103) (by omega) (by omega) (by omega) (by omega) dX8_readsFor_102 rfl ?_
      refine g_icmp_lt (t := 110) (q := 106) ⟨by omega, by omega⟩ ⟨by omega, by omega⟩ dX8_readsFor_103 rfl rfl (fun c103 => ?_) (fun c103 => ?_)
      · refine g_iconst (q := 111) dX8_readsFor_110 rfl ?_
        refine g_iadd (q := 112) dX8_readsFor_111 rfl ?_
        refine g_istore (q := 114) (al2 := [some (.ref (90)), some (.int (iI (i))), some (.int (iI (k))), some (.int (iI (x))), some (.int (iI (a))), some (.int (iI (f (pb c f k)))), some (.int (iI (knd (pb c f (k + 1) - pb c f k) (wd f (pb c f k) (pb c f (k + 1)))))), some (.int (iI (fct f (pb c f k) (pb c f (k + 1)) 5))), some (.int (iI (n + 0))), some (.int (iI (t)))]) (by decide) rfl rfl dX8_readsFor_112 rfl ?_
        refine g_iinc (q := 117) (al2 := [some (.ref (90)), some (.int (iI (i))), some (.int (iI (k))), some (.int (iI (x))), some (.int (iI (a))), some (.int (iI (f (pb c f k)))), some (.int (iI (knd (pb c f (k + 1) - pb c f k) (wd f (pb c f k) (pb c f (k + 1)))))), some (.int (iI (fct f (pb c f k) (pb c f (k + 1)) 5))), some (.int (iI (n + 0))), some (.int (iI (t + 1)))]) rfl (by decide) rfl rfl dX8_readsFor_114 rfl ?_
        refine g_goto (q := 74) dX8_readsFor_117 rfl ?_
        have ht : t < cb c f (f (pb c f k) + (x - f (pb c f k)) / 2 ^ (fct f (pb c f k) (pb c f (k + 1)) 5).toNat * 2 ^ (fct f (pb c f k) (pb c f (k + 1)) 5).toNat) := by
          rcases Int.lt_or_le t (cb c f (f (pb c f k) + (x - f (pb c f k)) / 2 ^ (fct f (pb c f k) (pb c f (k + 1)) 5).toNat * 2 ^ (fct f (pb c f k) (pb c f (k + 1)) 5).toNat)) with z | z
          · exact z
          · have := hg.mpr z; omega
        exact ih (t + 1, _) ⟨by omega, by omega, by
            rw [en]
            by_cases z : t ≤ cb c f (f (pb c f k) + (x - f (pb c f k)) / 2 ^ (fct f (pb c f k) (pb c f (k + 1)) 5).toNat * 2 ^ (fct f (pb c f k) (pb c f (k + 1)) 5).toNat)
            · rw [if_pos z]
              rw [if_pos (by omega)]; omega
            · omega⟩ (by show (a + 1 - (t + 1)).toNat < (a + 1 - t).toNat; omega)
      · refine g_iconst (q := 107) dX8_readsFor_106 rfl ?_
        refine g_goto (q := 111) dX8_readsFor_107 rfl ?_
        refine g_iadd (q := 112) dX8_readsFor_111 rfl ?_
        refine g_istore (q := 114) (al2 := [some (.ref (90)), some (.int (iI (i))), some (.int (iI (k))), some (.int (iI (x))), some (.int (iI (a))), some (.int (iI (f (pb c f k)))), some (.int (iI (knd (pb c f (k + 1) - pb c f k) (wd f (pb c f k) (pb c f (k + 1)))))), some (.int (iI (fct f (pb c f k) (pb c f (k + 1)) 5))), some (.int (iI (n + 1))), some (.int (iI (t)))]) (by decide) rfl rfl dX8_readsFor_112 rfl ?_
        refine g_iinc (q := 117) (al2 := [some (.ref (90)), some (.int (iI (i))), some (.int (iI (k))), some (.int (iI (x))), some (.int (iI (a))), some (.int (iI (f (pb c f k)))), some (.int (iI (knd (pb c f (k + 1) - pb c f k) (wd f (pb c f k) (pb c f (k + 1)))))), some (.int (iI (fct f (pb c f k) (pb c f (k + 1)) 5))), some (.int (iI (n + 1))), some (.int (iI (t + 1)))]) rfl (by decide) rfl rfl dX8_readsFor_114 rfl ?_
        refine g_goto (q := 74) dX8_readsFor_117 rfl ?_
        have ht : cb c f (f (pb c f k) + (x - f (pb c f k)) / 2 ^ (fct f (pb c f k) (pb c f (k + 1)) 5).toNat * 2 ^ (fct f (pb c f k) (pb c f (k + 1)) 5).toNat) ≤ t := hg.mp c103
        exact ih (t + 1, _) ⟨by omega, by omega, by
            rw [en]
            by_cases z : t ≤ cb c f (f (pb c f k) + (x - f (pb c f k)) / 2 ^ (fct f (pb c f k) (pb c f (k + 1)) 5).toNat * 2 ^ (fct f (pb c f k) (pb c f (k + 1)) 5).toNat)
            · rw [if_pos z]
              rw [if_neg (by omega)]; omega
            · rw [if_neg z, if_neg (by omega)]; omega⟩ (by show (a + 1 - (t + 1)).toNat < (a + 1 - t).toNat; omega)
  · refine g_iload (q := 24) rfl dX8_readsFor_22 rfl ?_
    refine g_if_ne (t := 31) (q := 27) ⟨by omega, by omega⟩ dX8_readsFor_24 rfl rfl (fun c24 => ?_) (fun c24 => ?_)
    · refine g_aload_n (q := 32) rfl rfl dX8_readsFor_31 rfl ?_
      refine g_iload_n (q := 33) rfl rfl dX8_readsFor_32 rfl ?_
      refine g_iload (q := 35) rfl dX8_readsFor_33 rfl ?_
      refine g_Vr (q := 38) (d' := 0) (i := 90) (av := [.int (iI (i)), .int (iI (a))]) (st := []) (v := .int (iI (f a))) kvX8_56 (t_X8_doc l h i c f hD a (by omega) (by omega)) (by decide) hA rfl (Nat.le_of_ble_eq_true rfl) ⟨(Nat.le_of_ble_eq_true rfl), (Nat.le_of_ble_eq_true rfl)⟩ ⟨(Nat.le_of_ble_eq_true rfl), (Nat.le_of_ble_eq_true rfl)⟩ rfl rfl dX8_readsFor_35 rfl ?_
      refine g_iload (q := 40) rfl dX8_readsFor_38 rfl ?_
      refine g_isub (q := 41) dX8_readsFor_40 rfl ?_
      refine g_bipush (q := 43) (by decide) dX8_readsFor_41 rfl ?_
      refine g_idiv (q := 44) (by omega) (by omega) (by omega) (by omega) dX8_readsFor_43 rfl ?_
      refine g_iload_n (q := 45) rfl rfl dX8_readsFor_44 rfl ?_
      refine g_iload (q := 47) rfl dX8_readsFor_45 rfl ?_
      refine g_isub (q := 48) dX8_readsFor_47 rfl ?_
      refine g_bipush (q := 50) (by decide) dX8_readsFor_48 rfl ?_
      refine g_idiv (q := 51) (by omega) (by omega) (by omega) (by omega) dX8_readsFor_50 rfl ?_
      refine g_isub (q := 52) dX8_readsFor_51 rfl ?_
      refine g_iconst (q := 53) dX8_readsFor_52 rfl ?_
      refine g_iadd (q := 54) dX8_readsFor_53 rfl ?_
      have er : rdI c f (fct f (pb c f k) (pb c f (k + 1)) 0) (fct f (pb c f k) (pb c f (k + 1)) 2) (fct f (pb c f k) (pb c f (k + 1)) 5) x a = (f a - f (pb c f k)) / 8 - (x - f (pb c f k)) / 8 + 1 := by unfold rdI; rw [rk, r2, if_pos (by omega), dA_in (by omega) (by omega)]
      rw [er]
      exact g_ireturn (fun z => NN_f z) (Nat.le_of_ble_eq_true rfl) (Nat.le_of_ble_eq_true rfl) dX8_readsFor_54 rfl rP_in
    · refine g_iconst (q := 28) dX8_readsFor_27 rfl ?_
      refine g_goto (q := 54) dX8_readsFor_28 rfl ?_
      have er : rdI c f (fct f (pb c f k) (pb c f (k + 1)) 0) (fct f (pb c f k) (pb c f (k + 1)) 2) (fct f (pb c f k) (pb c f (k + 1)) 5) x a = 0 := by unfold rdI; rw [rk, if_neg (by omega), if_neg (by omega)]
      rw [er]
      exact g_ireturn (fun z => NN_f z) (Nat.le_of_ble_eq_true rfl) (Nat.le_of_ble_eq_true rfl) dX8_readsFor_54 rfl rP_in
set_option maxRecDepth 4000 in
theorem t_X8_opens (l : Launch) (h : EHp) (th : Int) (S : ASt) (sv : List ASt) (hM : MRep h th S sv) (i : Nat) (hi : i < 4) (hL : MLay h i (S.1 i).1 (S.1 i).2) (k : Nat) (hk : k < pn (S.1 i).1 (S.1 i).2) (x : Int) (x5 : x ≤ 511) (hx1 : (S.1 i).2 (pb (S.1 i).1 (S.1 i).2 k) < x) (hx2 : x ≤ (S.1 i).2 (pb (S.1 i).1 (S.1 i).2 (k + 1) - 1)) : CT l mX8_opens 6 0 0 [.ref (90), .int (iI (i)), .int (iI (k)), .int (iI (x))] NN h (wP (fun v h' => v = .int (iI (qIn S i k x).1) ∧ MRep h' th (qIn S i k x).2 sv ∧ ∀ j, j ≠ 91 → h' j = h j)) := by
  obtain ⟨w, pst, bg, mn, lz, hA, ⟨m1, m2, m3, m4, m5⟩, ⟨⟨cs, s1⟩, ⟨ct, s2⟩, ⟨nx, s3⟩, ⟨fd, s4⟩, ⟨od, s5⟩⟩, hW, hP, hY⟩ := id hM
  have hMR : MR h th S sv w pst bg mn lz := ⟨hA, ⟨m1, m2, m3, m4, m5⟩, ⟨⟨cs, s1⟩, ⟨ct, s2⟩, ⟨nx, s3⟩, ⟨fd, s4⟩, ⟨od, s5⟩⟩, hW, hP, hY⟩
  have hD := hL.1
  have hO := hL.LOk
  obtain ⟨o1, o2, o3, o4⟩ := id hO
  obtain ⟨k0, k1, k2⟩ := hL.pb hk
  have p64 := pn_64 hO
  obtain ⟨wl, w8⟩ := hW.len
  obtain ⟨-, w260, -, wcl, w270, w271, cp0, cp8, lcp, hnd, hrg⟩ := id hW
  have fr_ := o3 (pb (S.1 i).1 (S.1 i).2 k) (by omega) (by omega)
  refine CT.of (by decide) (Nat.le_of_ble_eq_true rfl) ?_
  refine g_al (al2 := [some (.ref (90)), some (.int (iI (i))), some (.int (iI (k))), some (.int (iI (x))), none, none, none]) rfl ?_
  refine g_aload_n (q := 1) rfl rfl dX8_opens_0 rfl ?_
  refine g_iload_n (q := 2) rfl rfl dX8_opens_1 rfl ?_
  refine g_iload_n (q := 3) rfl rfl dX8_opens_2 rfl ?_
  refine g_Vr (q := 6) (d' := 0) (i := 90) (av := [.int (iI (i)), .int (iI (k))]) (st := []) (v := .int (iI (pb (S.1 i).1 (S.1 i).2 k))) kvX8_96 (t_X8_beginOf l h i (S.1 i).1 (S.1 i).2 hL k (by omega)) (by decide) hA rfl (Nat.le_of_ble_eq_true rfl) ⟨(Nat.le_of_ble_eq_true rfl), (Nat.le_of_ble_eq_true rfl)⟩ ⟨(Nat.le_of_ble_eq_true rfl), (Nat.le_of_ble_eq_true rfl)⟩ rfl rfl dX8_opens_3 rfl ?_
  refine g_istore (q := 8) (al2 := [some (.ref (90)), some (.int (iI (i))), some (.int (iI (k))), some (.int (iI (x))), some (.int (iI (pb (S.1 i).1 (S.1 i).2 k))), none, none]) (by decide) rfl rfl dX8_opens_6 rfl ?_
  refine loopG (σ := Int) (P := fun a => G l noX mX8_opens 6 0 0 (wP (fun v h' => v = .int (iI (qIn S i k x).1) ∧ MRep h' th (qIn S i k x).2 sv ∧ ∀ j, j ≠ 91 → h' j = h j)) 0 0 8 [some (.ref (90)), some (.int (iI (i))), some (.int (iI (k))), some (.int (iI (x))), some (.int (iI (a))), none, none] [] NN h) (I := fun a => pb (S.1 i).1 (S.1 i).2 k ≤ a ∧ a < pb (S.1 i).1 (S.1 i).2 (k + 1) ∧ ∀ t, 0 ≤ t → t < a → (S.1 i).2 t < x) (fun a => (pb (S.1 i).1 (S.1 i).2 (k + 1) - a).toNat) ?_ (pb (S.1 i).1 (S.1 i).2 k) ⟨Int.le_refl _, by omega, fun t t0 t1 => by have := o4 t (pb (S.1 i).1 (S.1 i).2 k) t0 t1 (by omega); omega⟩
  intro a hI ih
  obtain ⟨a0, a1, a2⟩ := hI
  have ra := o3 a (by omega) (by omega)
  refine g_aload_n (q := 9) rfl rfl dX8_opens_8 rfl ?_
  refine g_iload_n (q := 10) rfl rfl dX8_opens_9 rfl ?_
  refine g_iload (q := 12) rfl dX8_opens_10 rfl ?_
  refine g_Vr (q := 15) (d' := 0) (i := 90) (av := [.int (iI (i)), .int (iI (a))]) (st := []) (v := .int (iI ((S.1 i).2 a))) kvX8_56 (t_X8_doc l h i (S.1 i).1 (S.1 i).2 hD a (by omega) (by omega)) (by decide) hA rfl (Nat.le_of_ble_eq_true rfl) ⟨(Nat.le_of_ble_eq_true rfl), (Nat.le_of_ble_eq_true rfl)⟩ ⟨(Nat.le_of_ble_eq_true rfl), (Nat.le_of_ble_eq_true rfl)⟩ rfl rfl dX8_opens_12 rfl ?_
  refine g_iload_n (q := 16) rfl rfl dX8_opens_15 rfl ?_
  refine g_icmp_ge (t := 25) (q := 19) ⟨by omega, by omega⟩ ⟨by omega, by omega⟩ dX8_opens_16 rfl rfl (fun c16 => ?_) (fun c16 => ?_)
  · have ea : a = cb (S.1 i).1 (S.1 i).2 x := cb_eq ⟨by omega, by omega, a2, fun _ => by omega⟩
    refine g_iconst (q := 26) dX8_opens_25 rfl ?_
    refine g_istore (q := 28) (al2 := [some (.ref (90)), some (.int (iI (i))), some (.int (iI (k))), some (.int (iI (x))), some (.int (iI (a))), some (.int (iI (-1))), none]) (by decide) rfl rfl dX8_opens_26 rfl ?_
    refine g_iconst (q := 29) dX8_opens_28 rfl ?_
    refine g_istore (q := 31) (al2 := [some (.ref (90)), some (.int (iI (i))), some (.int (iI (k))), some (.int (iI (x))), some (.int (iI (a))), some (.int (iI (-1))), some (.int (iI (0)))]) (by decide) rfl rfl dX8_opens_29 rfl ?_
    refine loopG (σ := Nat × Int) (P := fun zz => match zz with | (j, pl) => G l noX mX8_opens 6 0 0 (wP (fun v h' => v = .int (iI (qIn S i k x).1) ∧ MRep h' th (qIn S i k x).2 sv ∧ ∀ j, j ≠ 91 → h' j = h j)) 0 0 31 [some (.ref (90)), some (.int (iI (i))), some (.int (iI (k))), some (.int (iI (x))), some (.int (iI (a))), some (.int (iI (pl))), some (.int (iI (j)))] [] NN h) (I := fun zz => match zz with | (j, pl) => j ≤ S.2.2.1.length ∧ ((pl = -1 ∧ ∀ t : Nat, t < j → S.2.2.1[t]? ≠ some ((100 : Int) * i + k)) ∨ (∃ t : Nat, pl = t ∧ t < S.2.2.1.length ∧ S.2.2.1[t]? = some ((100 : Int) * i + k)))) (fun zz => match zz with | (j, pl) => S.2.2.1.length - j) ?_ (0, -1) ⟨Nat.zero_le _, Or.inl ⟨rfl, fun t ht => by omega⟩⟩
    rintro ⟨j, pl⟩ hI ih
    obtain ⟨j1, hpl⟩ := hI
    refine g_iload (q := 33) rfl dX8_opens_31 rfl ?_
    refine g_aload_n (q := 34) rfl rfl dX8_opens_33 rfl ?_
    refine g_get (q := 37) fX8_7r (by decide) hA rfl dX8_opens_34 rfl ?_
    refine g_sipush (q := 40) (by decide) dX8_opens_37 rfl ?_
    refine g_iaload (q := 41) (by decide) m1 (by decide) (by decide) (by decide) dX8_opens_40 rfl ?_
    rw [wl]
    refine g_icmp_ge (t := 79) (q := 44) ⟨by omega, by omega⟩ ⟨by omega, by omega⟩ dX8_opens_41 rfl rfl (fun c41 => ?_) (fun c41 => ?_)
    · have ej : j = S.2.2.1.length := by omega
      have plr : pl = -1 ∨ (0 ≤ pl ∧ pl < 8) := by
        rcases hpl with ⟨z, -⟩ | ⟨t, z, z2, -⟩ <;> omega
      have k125 : ∀ (r2 q2 : Int) (w2 : Int → Int) (h2 : EHp) (hz : MR h2 th (S.1, S.2.1, (S.2.2.1.filter (dbp ((100 : Int) * i + k) ((100 : Int) * i + k))), r2, q2) sv w2 pst bg mn lz ∧ (∀ j, j ≠ 91 → h2 j = h j) ∧ (qIn S i k x).2 = (S.1, S.2.1, cUse S.2.1 S.2.2.1 ((100 : Int) * i + k), r2, q2)), G l noX mX8_opens 6 0 0 (wP (fun v h' => v = .int (iI (qIn S i k x).1) ∧ MRep h' th (qIn S i k x).2 sv ∧ ∀ j, j ≠ 91 → h' j = h j)) 0 0 125 [some (.ref (90)), some (.int (iI (i))), some (.int (iI (k))), some (.int (iI (x))), some (.int (iI (a))), none, none] [] NN h2 := by
        intro r2 q2 w2 h2 hz
        obtain ⟨hM2, fr2, eq2⟩ := hz
        obtain ⟨g1, ⟨g2, -⟩, -, gW, -⟩ := id hM2
        obtain ⟨gl, gl8⟩ := gW.len
        obtain ⟨-, g260, -, -, -, -, -, -, glc, gnd, grg⟩ := id gW
        have gl : w2 261 = ((S.2.2.1.filter (dbp ((100 : Int) * i + k) ((100 : Int) * i + k))).length : Int) := gl
        have g260 : w2 260 = S.2.1 := g260
        have glc : ((S.2.2.1.filter (dbp ((100 : Int) * i + k) ((100 : Int) * i + k))).length : Int) ≤ S.2.1 := glc
        have gnk : ¬ ((100 : Int) * i + k) ∈ (S.2.2.1.filter (dbp ((100 : Int) * i + k) ((100 : Int) * i + k))) := flt_not
        refine g_aload_n (q := 126) rfl rfl dX8_opens_125 rfl ?_
        refine g_get (q := 129) fX8_7r (by decide) g1 rfl dX8_opens_126 rfl ?_
        refine g_sipush (q := 132) (by decide) dX8_opens_129 rfl ?_
        refine g_iaload (q := 133) (by decide) g2 (by decide) (by decide) (by decide) dX8_opens_132 rfl ?_
        rw [g260]
        refine g_if_le (t := 195) (q := 136) ⟨by omega, by omega⟩ dX8_opens_133 rfl rfl (fun c133 => ?_) (fun c133 => ?_)
        · have eu : cUse S.2.1 S.2.2.1 ((100 : Int) * i + k) = (S.2.2.1.filter (dbp ((100 : Int) * i + k) ((100 : Int) * i + k))) := by unfold cUse; rw [if_neg (by omega)]
          rw [eu] at eq2
          have hD3 : MDoc h2 i (S.1 i).1 (S.1 i).2 := MR.doc hM2 hi
          refine g_aload_n (q := 196) rfl rfl dX8_opens_195 rfl ?_
          refine g_iload_n (q := 197) rfl rfl dX8_opens_196 rfl ?_
          refine g_iload (q := 199) rfl dX8_opens_197 rfl ?_
          refine g_Vr (q := 202) (d' := 0) (i := 90) (av := [.int (iI (i)), .int (iI (a))]) (st := []) (v := .int (iI ((S.1 i).2 a))) kvX8_56 (t_X8_doc l h2 i (S.1 i).1 (S.1 i).2 hD3 a (by omega) (by omega)) (by decide) g1 rfl (Nat.le_of_ble_eq_true rfl) ⟨(Nat.le_of_ble_eq_true rfl), (Nat.le_of_ble_eq_true rfl)⟩ ⟨(Nat.le_of_ble_eq_true rfl), (Nat.le_of_ble_eq_true rfl)⟩ rfl rfl dX8_opens_199 rfl ?_
          have ev : (qIn S i k x).1 = (S.1 i).2 a := by show dA (S.1 i).1 (S.1 i).2 (cb (S.1 i).1 (S.1 i).2 x) = (S.1 i).2 a; rw [← ea, dA_in (by omega) (by omega)]
          exact g_ireturn (fun z => NN_f z) (Nat.le_of_ble_eq_true rfl) (Nat.le_of_ble_eq_true rfl) dX8_opens_202 rfl (wP_in ⟨by rw [ev], ⟨_, pst, bg, mn, lz, by rw [eq2]; exact hM2⟩, fr2⟩)
        · have k160 : ∀ (w3 : Int → Int) (h3 : EHp) (c2 : List Int) (hz3 : MR h3 th (S.1, S.2.1, c2, r2, q2) sv w3 pst bg mn lz ∧ (∀ j, j ≠ 91 → h3 j = h j) ∧ c2 = trim (S.2.1 - 1).toNat (S.2.2.1.filter (dbp ((100 : Int) * i + k) ((100 : Int) * i + k))) ∧ (c2.length : Int) < S.2.1), G l noX mX8_opens 6 0 0 (wP (fun v h' => v = .int (iI (qIn S i k x).1) ∧ MRep h' th (qIn S i k x).2 sv ∧ ∀ j, j ≠ 91 → h' j = h j)) 0 0 160 [some (.ref (90)), some (.int (iI (i))), some (.int (iI (k))), some (.int (iI (x))), some (.int (iI (a))), none, none] [] NN h3 := by
            intro w3 h3 c2 hz3
            obtain ⟨hM3, fr3, ec2, el2⟩ := hz3
            obtain ⟨u1, ⟨u2, -⟩, -, uW, -⟩ := id hM3
            obtain ⟨ul, ul8⟩ := uW.len
            have ul : w3 261 = (c2.length : Int) := ul
            have ul8 : (c2.length : Int) ≤ 8 := ul8
            refine g_aload_n (q := 161) rfl rfl dX8_opens_160 rfl ?_
            refine g_get (q := 164) fX8_7r (by decide) u1 rfl dX8_opens_161 rfl ?_
            refine g_sipush (q := 167) (by decide) dX8_opens_164 rfl ?_
            refine g_aload_n (q := 168) rfl rfl dX8_opens_167 rfl ?_
            refine g_get (q := 171) fX8_7r (by decide) u1 rfl dX8_opens_168 rfl ?_
            refine g_sipush (q := 174) (by decide) dX8_opens_171 rfl ?_
            refine g_iaload (q := 175) (by decide) u2 (by decide) (by decide) (by decide) dX8_opens_174 rfl ?_
            rw [ul]
            refine g_iadd (q := 176) dX8_opens_175 rfl ?_
            refine g_bipush (q := 178) (by decide) dX8_opens_176 rfl ?_
            refine g_iload_n (q := 179) rfl rfl dX8_opens_178 rfl ?_
            refine g_imul (q := 180) dX8_opens_179 rfl ?_
            refine g_iload_n (q := 181) rfl rfl dX8_opens_180 rfl ?_
            refine g_iadd (q := 182) dX8_opens_181 rfl ?_
            refine g_iastore (q := 183) (by decide) u2 (by omega) (by omega) (by decide) dX8_opens_182 rfl ?_
            refine hp_in (fun hh1 ehh1 => ?_)
            have fc2 : hh1 90 = cO 7 [.int (iI (th)), .ref (91), .ref (92), .int (iI (sv.length)), .ref (93), .ref (94), .ref (95), .ref (96), .ref (97), .ref (98), .ref (99), .ref (100)] := by rw [ehh1, ueh_n (by decide)]; exact u1
            have fc3 : hh1 91 = cI 272 (ui w3 (262 + c2.length) ((100 * i) + k)) := by rw [ehh1]; exact ueh_s
            refine g_aload_n (q := 184) rfl rfl dX8_opens_183 rfl ?_
            refine g_get (q := 187) fX8_7r (by decide) fc2 rfl dX8_opens_184 rfl ?_
            refine g_sipush (q := 190) (by decide) dX8_opens_187 rfl ?_
            refine g_dup2 (q := 191) rfl rfl dX8_opens_190 rfl ?_
            refine g_iaload (q := 192) (by decide) fc3 (by decide) (by decide) (by decide) dX8_opens_191 rfl ?_
            rw [show ui w3 (262 + (c2.length : Int)) ((100 : Int) * i + k) 261 = (c2.length : Int) by unfold ui; rw [if_neg (by omega)]; exact ul]
            refine g_iconst (q := 193) dX8_opens_192 rfl ?_
            refine g_iadd (q := 194) dX8_opens_193 rfl ?_
            refine g_iastore (q := 195) (by decide) fc3 (by decide) (by decide) (by decide) dX8_opens_194 rfl ?_
            refine hp_in (fun hh4 ehh4 => ?_)
            have fc5 : hh4 90 = cO 7 [.int (iI (th)), .ref (91), .ref (92), .int (iI (sv.length)), .ref (93), .ref (94), .ref (95), .ref (96), .ref (97), .ref (98), .ref (99), .ref (100)] := by rw [ehh4, ueh_n (by decide)]; exact fc2
            have fc6 : hh4 91 = cI 272 (ui (ui w3 (262 + c2.length) ((100 * i) + k)) 261 (c2.length + 1)) := by rw [ehh4]; exact ueh_s
            have hM4 : MR hh4 th (S.1, S.2.1, c2 ++ [((100 : Int) * i + k)], r2, q2) sv _ pst bg mn lz := hM3.row (fun j hj => by rw [ehh4, ueh_n hj, ehh1, ueh_n hj]) fc6 (uW.push (by show (c2.length : Int) < S.2.1; omega) (by show ¬ ((100 : Int) * i + k) ∈ c2; rw [ec2]; exact fun z => gnk (trim_mem z)) (by omega) (by omega)) rfl
            have eu : cUse S.2.1 S.2.2.1 ((100 : Int) * i + k) = c2 ++ [((100 : Int) * i + k)] := by unfold cUse; rw [if_pos (by omega), ec2]
            rw [eu] at eq2
            have hD3 : MDoc hh4 i (S.1 i).1 (S.1 i).2 := MR.doc hM4 hi
            refine g_aload_n (q := 196) rfl rfl dX8_opens_195 rfl ?_
            refine g_iload_n (q := 197) rfl rfl dX8_opens_196 rfl ?_
            refine g_iload (q := 199) rfl dX8_opens_197 rfl ?_
            refine g_Vr (q := 202) (d' := 0) (i := 90) (av := [.int (iI (i)), .int (iI (a))]) (st := []) (v := .int (iI ((S.1 i).2 a))) kvX8_56 (t_X8_doc l hh4 i (S.1 i).1 (S.1 i).2 hD3 a (by omega) (by omega)) (by decide) fc5 rfl (Nat.le_of_ble_eq_true rfl) ⟨(Nat.le_of_ble_eq_true rfl), (Nat.le_of_ble_eq_true rfl)⟩ ⟨(Nat.le_of_ble_eq_true rfl), (Nat.le_of_ble_eq_true rfl)⟩ rfl rfl dX8_opens_199 rfl ?_
            have ev : (qIn S i k x).1 = (S.1 i).2 a := by show dA (S.1 i).1 (S.1 i).2 (cb (S.1 i).1 (S.1 i).2 x) = (S.1 i).2 a; rw [← ea, dA_in (by omega) (by omega)]
            exact g_ireturn (fun z => NN_f z) (Nat.le_of_ble_eq_true rfl) (Nat.le_of_ble_eq_true rfl) dX8_opens_202 rfl (wP_in ⟨by rw [ev], ⟨_, pst, bg, mn, lz, by rw [eq2]; exact hM4⟩, fun j hj => by rw [ehh4, ueh_n hj, ehh1, ueh_n hj]; exact fr3 j hj⟩)
          refine g_aload_n (q := 137) rfl rfl dX8_opens_136 rfl ?_
          refine g_get (q := 140) fX8_7r (by decide) g1 rfl dX8_opens_137 rfl ?_
          refine g_sipush (q := 143) (by decide) dX8_opens_140 rfl ?_
          refine g_iaload (q := 144) (by decide) g2 (by decide) (by decide) (by decide) dX8_opens_143 rfl ?_
          rw [gl]
          refine g_aload_n (q := 145) rfl rfl dX8_opens_144 rfl ?_
          refine g_get (q := 148) fX8_7r (by decide) g1 rfl dX8_opens_145 rfl ?_
          refine g_sipush (q := 151) (by decide) dX8_opens_148 rfl ?_
          refine g_iaload (q := 152) (by decide) g2 (by decide) (by decide) (by decide) dX8_opens_151 rfl ?_
          rw [g260]
          refine g_icmp_ne (t := 160) (q := 155) ⟨by omega, by omega⟩ ⟨by omega, by omega⟩ dX8_opens_152 rfl rfl (fun c152 => ?_) (fun c152 => ?_)
          · exact k160 w2 h2 (S.2.2.1.filter (dbp ((100 : Int) * i + k) ((100 : Int) * i + k))) ⟨hM2, fr2, (trim_id (by omega)).symm, by omega⟩
          · refine g_aload_n (q := 156) rfl rfl dX8_opens_155 rfl ?_
            refine g_iconst (q := 157) dX8_opens_156 rfl ?_
            refine g_Vv (q := 160) (d' := 0) (i := 90) (av := [.int (iI (0))]) (st := []) kvX8_52 (t_X8_drop l h2 th sv.length w2 g1 g2 0 (by omega) (by omega)) (by decide) g1 rfl (Nat.le_of_ble_eq_true rfl) ⟨(Nat.le_of_ble_eq_true rfl), (Nat.le_of_ble_eq_true rfl)⟩ ⟨(Nat.le_of_ble_eq_true rfl), (Nat.le_of_ble_eq_true rfl)⟩ rfl rfl dX8_opens_157 rfl (fun h3 hp => ?_)
            obtain ⟨w3, q1, q2_, q3, q4, q5⟩ := hp
            have dl : 0 < (S.2.2.1.filter (dbp ((100 : Int) * i + k) ((100 : Int) * i + k))).length := by omega
            have hM3 := hM2.row (S' := ers (S.1, S.2.1, (S.2.2.1.filter (dbp ((100 : Int) * i + k) ((100 : Int) * i + k))), r2, q2) 0) q5 q1 (WR.drop (p := 0) gW dl q2_ q3 q4) rfl
            have e0 : (S.2.2.1.filter (dbp ((100 : Int) * i + k) ((100 : Int) * i + k))).eraseIdx 0 = trim (S.2.1 - 1).toNat (S.2.2.1.filter (dbp ((100 : Int) * i + k) ((100 : Int) * i + k))) := by
              unfold trim
              rw [show (S.2.2.1.filter (dbp ((100 : Int) * i + k) ((100 : Int) * i + k))).length - (S.2.1 - 1).toNat = 1 by omega, List.eraseIdx_zero, List.drop_one]
            have hl0 : (((S.2.2.1.filter (dbp ((100 : Int) * i + k) ((100 : Int) * i + k))).eraseIdx 0).length : Int) < S.2.1 := by rw [List.length_eraseIdx, if_pos dl]; omega
            exact k160 w3 h3 ((S.2.2.1.filter (dbp ((100 : Int) * i + k) ((100 : Int) * i + k))).eraseIdx 0) ⟨hM3, fun j hj => (q5 j hj).trans (fr2 j hj), e0, hl0⟩
      refine g_iload (q := 81) rfl dX8_opens_79 rfl ?_
      refine g_if_lt (t := 105) (q := 84) ⟨by omega, by omega⟩ dX8_opens_81 rfl rfl (fun c81 => ?_) (fun c81 => ?_)
      · have nk : ¬ ((100 : Int) * i + k) ∈ S.2.2.1 := by
          rcases hpl with ⟨-, z⟩ | ⟨t, z, -, -⟩
          · intro hm
            obtain ⟨t, ht⟩ := List.getElem?_of_mem hm
            exact z t (by have := (List.getElem?_eq_some_iff.mp ht).1; omega) ht
          · omega
        have ef := flt_no nk
        refine g_aload_n (q := 106) rfl rfl dX8_opens_105 rfl ?_
        refine g_get (q := 109) fX8_7r (by decide) hA rfl dX8_opens_106 rfl ?_
        refine g_sipush (q := 112) (by decide) dX8_opens_109 rfl ?_
        refine g_dup2 (q := 113) rfl rfl dX8_opens_112 rfl ?_
        refine g_iaload (q := 114) (by decide) m1 (by decide) (by decide) (by decide) dX8_opens_113 rfl ?_
        rw [w270]
        refine g_aload_n (q := 115) rfl rfl dX8_opens_114 rfl ?_
        refine g_iload_n (q := 116) rfl rfl dX8_opens_115 rfl ?_
        refine g_iload_n (q := 117) rfl rfl dX8_opens_116 rfl ?_
        refine g_iload_n (q := 118) rfl rfl dX8_opens_117 rfl ?_
        refine g_iload (q := 120) rfl dX8_opens_118 rfl ?_
        refine g_Vr (q := 123) (d' := 5) (i := 90) (av := [.int (iI (i)), .int (iI (k)), .int (iI (x)), .int (iI (a))]) (st := [.int (iI (S.2.2.2.1)), .int (iI (270)), .ref (91)]) (v := .int (iI (rdI (S.1 i).1 (S.1 i).2 (fct (S.1 i).2 (pb (S.1 i).1 (S.1 i).2 k) (pb (S.1 i).1 (S.1 i).2 (k + 1)) 0) (fct (S.1 i).2 (pb (S.1 i).1 (S.1 i).2 k) (pb (S.1 i).1 (S.1 i).2 (k + 1)) 2) (fct (S.1 i).2 (pb (S.1 i).1 (S.1 i).2 k) (pb (S.1 i).1 (S.1 i).2 (k + 1)) 5) x a))) kvX8_135 (t_X8_readsFor l h i (S.1 i).1 (S.1 i).2 hL k hk x x5 hx1 a ea a0 a1 (by omega)) (by decide) hA rfl (Nat.le_of_ble_eq_true rfl) ⟨(Nat.le_of_ble_eq_true rfl), (Nat.le_of_ble_eq_true rfl)⟩ ⟨(Nat.le_of_ble_eq_true rfl), (Nat.le_of_ble_eq_true rfl)⟩ rfl rfl dX8_opens_120 rfl ?_
        refine g_iadd (q := 124) dX8_opens_123 rfl ?_
        refine g_iastore (q := 125) (by decide) m1 (by decide) (by decide) (by decide) dX8_opens_124 rfl ?_
        refine hp_in (fun hh7 ehh7 => ?_)
        have fc8 : hh7 90 = cO 7 [.int (iI (th)), .ref (91), .ref (92), .int (iI (sv.length)), .ref (93), .ref (94), .ref (95), .ref (96), .ref (97), .ref (98), .ref (99), .ref (100)] := by rw [ehh7, ueh_n (by decide)]; exact hA
        have fc9 : hh7 91 = cI 272 (ui w 270 (S.2.2.2.1 + (rdI (S.1 i).1 (S.1 i).2 (fct (S.1 i).2 (pb (S.1 i).1 (S.1 i).2 k) (pb (S.1 i).1 (S.1 i).2 (k + 1)) 0) (fct (S.1 i).2 (pb (S.1 i).1 (S.1 i).2 k) (pb (S.1 i).1 (S.1 i).2 (k + 1)) 2) (fct (S.1 i).2 (pb (S.1 i).1 (S.1 i).2 k) (pb (S.1 i).1 (S.1 i).2 (k + 1)) 5) x a))) := by rw [ehh7]; exact ueh_s
        refine g_drop (al2 := [some (.ref (90)), some (.int (iI (i))), some (.int (iI (k))), some (.int (iI (x))), some (.int (iI (a))), none, some (.int (iI (j)))]) 5 rfl ?_
        refine g_drop (al2 := [some (.ref (90)), some (.int (iI (i))), some (.int (iI (k))), some (.int (iI (x))), some (.int (iI (a))), none, none]) 6 rfl ?_
        exact k125 (S.2.2.2.1 + rdI (S.1 i).1 (S.1 i).2 (fct (S.1 i).2 (pb (S.1 i).1 (S.1 i).2 k) (pb (S.1 i).1 (S.1 i).2 (k + 1)) 0) (fct (S.1 i).2 (pb (S.1 i).1 (S.1 i).2 k) (pb (S.1 i).1 (S.1 i).2 (k + 1)) 2) (fct (S.1 i).2 (pb (S.1 i).1 (S.1 i).2 k) (pb (S.1 i).1 (S.1 i).2 (k + 1)) 5) x a) S.2.2.2.2 _ hh7 ⟨by
            rw [ef]
            exact hMR.row (fun j hj => by rw [ehh7, ueh_n hj]) fc9 (hW.reads _) rfl, fun j hj => by rw [ehh7, ueh_n hj], by
            show (if ((100 : Int) * i + k) ∈ S.2.2.1 then _ else _) = _
            rw [if_neg nk, ea]⟩
      · obtain ⟨t, et, tl, ht⟩ : ∃ t : Nat, pl = t ∧ t < S.2.2.1.length ∧ S.2.2.1[t]? = some ((100 : Int) * i + k) := by
          rcases hpl with ⟨z, -⟩ | z
          · omega
          · exact z
        subst et
        have yk : ((100 : Int) * i + k) ∈ S.2.2.1 := List.mem_of_getElem? ht
        have ef := flt_yes hnd ht
        refine g_aload_n (q := 85) rfl rfl dX8_opens_84 rfl ?_
        refine g_get (q := 88) fX8_7r (by decide) hA rfl dX8_opens_85 rfl ?_
        refine g_sipush (q := 91) (by decide) dX8_opens_88 rfl ?_
        refine g_dup2 (q := 92) rfl rfl dX8_opens_91 rfl ?_
        refine g_iaload (q := 93) (by decide) m1 (by decide) (by decide) (by decide) dX8_opens_92 rfl ?_
        rw [w271]
        refine g_iconst (q := 94) dX8_opens_93 rfl ?_
        refine g_iadd (q := 95) dX8_opens_94 rfl ?_
        refine g_iastore (q := 96) (by decide) m1 (by decide) (by decide) (by decide) dX8_opens_95 rfl ?_
        refine hp_in (fun hh10 ehh10 => ?_)
        have fc11 : hh10 90 = cO 7 [.int (iI (th)), .ref (91), .ref (92), .int (iI (sv.length)), .ref (93), .ref (94), .ref (95), .ref (96), .ref (97), .ref (98), .ref (99), .ref (100)] := by rw [ehh10, ueh_n (by decide)]; exact hA
        have fc12 : hh10 91 = cI 272 (ui w 271 (S.2.2.2.2 + 1)) := by rw [ehh10]; exact ueh_s
        have hM1 : MR hh10 th (S.1, S.2.1, S.2.2.1, S.2.2.2.1, S.2.2.2.2 + 1) sv _ pst bg mn lz := hMR.row (fun j hj => by rw [ehh10, ueh_n hj]) fc12 (hW.hits _) rfl
        have wl1 : ui w 271 (S.2.2.2.2 + 1) 261 = S.2.2.1.length := by unfold ui; rw [if_neg (by omega)]; exact wl
        refine g_aload_n (q := 97) rfl rfl dX8_opens_96 rfl ?_
        refine g_iload (q := 99) rfl dX8_opens_97 rfl ?_
        refine g_Vv (q := 102) (d' := 0) (i := 90) (av := [.int (iI (t))]) (st := []) kvX8_52 (t_X8_drop l hh10 th sv.length (ui w 271 (S.2.2.2.2 + 1)) fc11 fc12 t (by omega) (by omega)) (by decide) fc11 rfl (Nat.le_of_ble_eq_true rfl) ⟨(Nat.le_of_ble_eq_true rfl), (Nat.le_of_ble_eq_true rfl)⟩ ⟨(Nat.le_of_ble_eq_true rfl), (Nat.le_of_ble_eq_true rfl)⟩ rfl rfl dX8_opens_99 rfl (fun h3 hp => ?_)
        obtain ⟨w3, q1, q2_, q3, q4, q5⟩ := hp
        have hM3 := hM1.row (S' := ers (S.1, S.2.1, S.2.2.1, S.2.2.2.1, S.2.2.2.2 + 1) t) q5 q1 (WR.drop (p := t) hM1.2.2.2.1 tl q2_ q3 q4) rfl
        refine g_goto (q := 125) dX8_opens_102 rfl ?_
        refine g_drop (al2 := [some (.ref (90)), some (.int (iI (i))), some (.int (iI (k))), some (.int (iI (x))), some (.int (iI (a))), none, some (.int (iI (j)))]) 5 rfl ?_
        refine g_drop (al2 := [some (.ref (90)), some (.int (iI (i))), some (.int (iI (k))), some (.int (iI (x))), some (.int (iI (a))), none, none]) 6 rfl ?_
        exact k125 S.2.2.2.1 (S.2.2.2.2 + 1) w3 h3 ⟨by rw [ef]; exact hM3, fun j hj => by rw [q5 j hj, ehh10, ueh_n hj], by
            show (if ((100 : Int) * i + k) ∈ S.2.2.1 then _ else _) = _
            rw [if_pos yk]⟩
    · obtain ⟨v, hv⟩ : ∃ v, S.2.2.1[j]? = some v := ⟨_, List.getElem?_eq_getElem (show j < S.2.2.1.length by omega)⟩
      have ev := wcl j v hv
      have vr := hrg v (List.mem_of_getElem? hv)
      refine g_aload_n (q := 45) rfl rfl dX8_opens_44 rfl ?_
      refine g_get (q := 48) fX8_7r (by decide) hA rfl dX8_opens_45 rfl ?_
      refine g_sipush (q := 51) (by decide) dX8_opens_48 rfl ?_
      refine g_iload (q := 53) rfl dX8_opens_51 rfl ?_
      refine g_iadd (q := 54) dX8_opens_53 rfl ?_
      refine g_iaload (q := 55) (by decide) m1 (by omega) (by omega) (by decide) dX8_opens_54 rfl ?_
      rw [ev]
      refine g_bipush (q := 57) (by decide) dX8_opens_55 rfl ?_
      refine g_iload_n (q := 58) rfl rfl dX8_opens_57 rfl ?_
      refine g_imul (q := 59) dX8_opens_58 rfl ?_
      refine g_iload_n (q := 60) rfl rfl dX8_opens_59 rfl ?_
      refine g_iadd (q := 61) dX8_opens_60 rfl ?_
      refine g_icmp_ne (t := 69) (q := 64) ⟨by omega, by omega⟩ ⟨by omega, by omega⟩ dX8_opens_61 rfl rfl (fun c61 => ?_) (fun c61 => ?_)
      · refine g_iload (q := 71) rfl dX8_opens_69 rfl ?_
        refine g_istore (q := 73) (al2 := [some (.ref (90)), some (.int (iI (i))), some (.int (iI (k))), some (.int (iI (x))), some (.int (iI (a))), some (.int (iI (pl))), some (.int (iI (j)))]) (by decide) rfl rfl dX8_opens_71 rfl ?_
        refine g_iinc (q := 76) (al2 := [some (.ref (90)), some (.int (iI (i))), some (.int (iI (k))), some (.int (iI (x))), some (.int (iI (a))), some (.int (iI (pl))), some (.int (iI (j + 1)))]) rfl (by decide) rfl rfl dX8_opens_73 rfl ?_
        refine g_goto (q := 31) dX8_opens_76 rfl ?_
        exact ih (j + 1, pl) ⟨by omega, by
            rcases hpl with ⟨z, z2⟩ | z
            · exact Or.inl ⟨z, fun t ht => by
                by_cases e : t = j
                · rw [e, hv]; intro z3; injection z3 with z3; exact c61 z3
                · exact z2 t (by omega)⟩
            · exact Or.inr z⟩ (by show S.2.2.1.length - (j + 1) < S.2.2.1.length - j; omega)
      · refine g_iload (q := 66) rfl dX8_opens_64 rfl ?_
        refine g_goto (q := 71) dX8_opens_66 rfl ?_
        refine g_istore (q := 73) (al2 := [some (.ref (90)), some (.int (iI (i))), some (.int (iI (k))), some (.int (iI (x))), some (.int (iI (a))), some (.int (iI (j))), some (.int (iI (j)))]) (by decide) rfl rfl dX8_opens_71 rfl ?_
        refine g_iinc (q := 76) (al2 := [some (.ref (90)), some (.int (iI (i))), some (.int (iI (k))), some (.int (iI (x))), some (.int (iI (a))), some (.int (iI (j))), some (.int (iI (j + 1)))]) rfl (by decide) rfl rfl dX8_opens_73 rfl ?_
        refine g_goto (q := 31) dX8_opens_76 rfl ?_
        exact ih (j + 1, (j : Int)) ⟨by omega, Or.inr ⟨j, rfl, by omega, by rw [hv, c61]⟩⟩ (by show S.2.2.1.length - (j + 1) < S.2.2.1.length - j; omega)
  · refine g_iinc (q := 22) (al2 := [some (.ref (90)), some (.int (iI (i))), some (.int (iI (k))), some (.int (iI (x))), some (.int (iI (a + 1))), none, none]) rfl (by decide) rfl rfl dX8_opens_19 rfl ?_
    refine g_goto (q := 8) dX8_opens_22 rfl ?_
    exact ih (a + 1) ⟨by omega, by
        by_cases z : a = pb (S.1 i).1 (S.1 i).2 (k + 1) - 1
        · rw [← z] at hx2; omega
        · omega, fun t t0 t1 => by
        by_cases z : t = a
        · rw [z]; omega
        · exact a2 t t0 (by omega)⟩ (by omega)
set_option maxRecDepth 4000 in
theorem t_X8_asks (l : Launch) (h : EHp) (th : Int) (S : ASt) (sv : List ASt) (hM : MRep h th S sv) (i : Nat) (hi : i < 4) (x : Int) (x0 : 0 ≤ x) (x5 : x ≤ 511) : CT l mX8_asks 7 0 0 [.ref (90), .int (iI (i)), .int (iI (x))] NN h (wP (fun v h' => v = .int (iI (qry S i x).1) ∧ MRep h' th (qry S i x).2 sv ∧ ∀ j, j ≠ 91 → (j < 93 ∨ 98 < j) → h' j = h j)) := by
  obtain ⟨w, pst, bg, mn, lz, hA, ⟨m1, m2, m3, m4, m5⟩, ⟨⟨cs, s1⟩, ⟨ct, s2⟩, ⟨nx, s3⟩, ⟨fd, s4⟩, ⟨od, s5⟩⟩, hW, hP, hY⟩ := id hM
  refine CT.of (by decide) (Nat.le_of_ble_eq_true rfl) ?_
  refine g_al (al2 := [some (.ref (90)), some (.int (iI (i))), some (.int (iI (x))), none]) rfl ?_
  refine g_aload_n (q := 1) rfl rfl dX8_asks_0 rfl ?_
  refine g_iload_n (q := 2) rfl rfl dX8_asks_1 rfl ?_
  refine g_Vv (q := 5) (d' := 4) (i := 90) (av := [.int (iI (i))]) (st := []) kvX8_114 (t_X8_lay l h th S sv hM i hi) (by decide) hA rfl (Nat.le_of_ble_eq_true rfl) ⟨(Nat.le_of_ble_eq_true rfl), (Nat.le_of_ble_eq_true rfl)⟩ ⟨(Nat.le_of_ble_eq_true rfl), (Nat.le_of_ble_eq_true rfl)⟩ rfl rfl dX8_asks_2 rfl (fun h1 hp => ?_)
  obtain ⟨l1, l2, l3⟩ := hp
  have hO := l2.LOk
  obtain ⟨o1, o2, o3, o4⟩ := id hO
  have p64 := pn_64 hO
  refine g_iconst (q := 6) dX8_asks_5 rfl ?_
  refine g_istore_n (q := 7) (al2 := [some (.ref (90)), some (.int (iI (i))), some (.int (iI (x))), some (.int (iI (0)))]) rfl (by decide) rfl rfl dX8_asks_6 rfl ?_
  refine loopG (σ := Nat × EHp) (P := fun zz => match zz with | (k, h2) => G l noX mX8_asks 7 0 0 (wP (fun v h' => v = .int (iI (qry S i x).1) ∧ MRep h' th (qry S i x).2 sv ∧ ∀ j, j ≠ 91 → (j < 93 ∨ 98 < j) → h' j = h j)) 0 0 7 [some (.ref (90)), some (.int (iI (i))), some (.int (iI (x))), some (.int (iI (k)))] [] NN h2) (I := fun zz => match zz with | (k, h2) => k ≤ pn (S.1 i).1 (S.1 i).2 ∧ kq (S.1 i).1 (S.1 i).2 x = kqF (S.1 i).1 (S.1 i).2 x (pn (S.1 i).1 (S.1 i).2 - k) k ∧ MRep h2 th (addR S k) sv ∧ MLay h2 i (S.1 i).1 (S.1 i).2 ∧ ∀ j, j ≠ 91 → (j < 93 ∨ 98 < j) → h2 j = h j) (fun zz => match zz with | (k, h2) => pn (S.1 i).1 (S.1 i).2 - k) ?_ (0, h1) ⟨Nat.zero_le _, by unfold kq; rfl, by unfold addR; rw [show S.2.2.2.1 + ((0 : Nat) : Int) = S.2.2.2.1 by omega]; exact l1, l2, fun j _ hj => l3 j hj⟩
  rintro ⟨k, h2⟩ hI ih
  obtain ⟨i1, i2, hM2, hL2, fr2⟩ := hI
  obtain ⟨w2, pst2, bg2, mn2, lz2, hMR2⟩ := id hM2
  obtain ⟨g1, ⟨g2, -, g4, g5, -⟩, -, gW, -⟩ := id hMR2
  obtain ⟨bg3, mn3, b93, b94, emn, -⟩ := id hL2.2
  have g270 : w2 270 = S.2.2.2.1 + k := gW.2.2.2.2.1
  refine g_iload_n (q := 8) rfl rfl dX8_asks_7 rfl ?_
  refine g_aload_n (q := 9) rfl rfl dX8_asks_8 rfl ?_
  refine g_get (q := 12) fX8_19r (by decide) g1 rfl dX8_asks_9 rfl ?_
  refine g_iload_n (q := 13) rfl rfl dX8_asks_12 rfl ?_
  refine g_iaload (q := 14) (by decide) b94 (by omega) (by omega) (by decide) dX8_asks_13 rfl ?_
  rw [emn]
  refine g_icmp_ge (t := 72) (q := 17) ⟨by omega, by omega⟩ ⟨by omega, by omega⟩ dX8_asks_14 rfl rfl (fun c14 => ?_) (fun c14 => ?_)
  · have ek : k = pn (S.1 i).1 (S.1 i).2 := by omega
    have e1 : kq (S.1 i).1 (S.1 i).2 x = k := by rw [i2, ek, Nat.sub_self]; rfl
    have e2 : qry S i x = (-1, addR S k) := by unfold qry; simp only []; rw [if_neg (by rw [e1]; omega), e1]
    refine g_iconst (q := 73) dX8_asks_72 rfl ?_
    exact g_ireturn (fun z => NN_f z) (Nat.le_of_ble_eq_true rfl) (Nat.le_of_ble_eq_true rfl) dX8_asks_73 rfl (wP_in ⟨by rw [e2], by rw [e2]; exact hM2, fr2⟩)
  · have hk : k < pn (S.1 i).1 (S.1 i).2 := by omega
    obtain ⟨k0, k1, k2⟩ := hL2.pb hk
    have r3 := o3 (pb (S.1 i).1 (S.1 i).2 (k + 1) - 1) (by omega) (by omega)
    have r2 := o3 (pb (S.1 i).1 (S.1 i).2 k) (by omega) (by omega)
    have fs : pn (S.1 i).1 (S.1 i).2 - k = (pn (S.1 i).1 (S.1 i).2 - (k + 1)) + 1 := by omega
    refine g_aload_n (q := 18) rfl rfl dX8_asks_17 rfl ?_
    refine g_get (q := 21) fX8_7r (by decide) g1 rfl dX8_asks_18 rfl ?_
    refine g_sipush (q := 24) (by decide) dX8_asks_21 rfl ?_
    refine g_dup2 (q := 25) rfl rfl dX8_asks_24 rfl ?_
    refine g_iaload (q := 26) (by decide) g2 (by decide) (by decide) (by decide) dX8_asks_25 rfl ?_
    rw [g270]
    refine g_iconst (q := 27) dX8_asks_26 rfl ?_
    refine g_iadd (q := 28) dX8_asks_27 rfl ?_
    refine g_iastore (q := 29) (by decide) g2 (by decide) (by decide) (by decide) dX8_asks_28 rfl ?_
    refine hp_in (fun hh1 ehh1 => ?_)
    have fc2 : hh1 90 = cO 7 [.int (iI (th)), .ref (91), .ref (92), .int (iI (sv.length)), .ref (93), .ref (94), .ref (95), .ref (96), .ref (97), .ref (98), .ref (99), .ref (100)] := by rw [ehh1, ueh_n (by decide)]; exact g1
    have fc3 : hh1 91 = cI 272 (ui w2 270 ((S.2.2.2.1 + k) + 1)) := by rw [ehh1]; exact ueh_s
    have fc4 : hh1 94 = cI 4 mn3 := by rw [ehh1, ueh_n (by decide)]; exact b94
    have hM3 : MR hh1 th (addR S ((k : Int) + 1)) sv _ pst2 bg2 mn2 lz2 := hMR2.row (fun j hj => by rw [ehh1, ueh_n hj]) fc3 (by
      have := gW.reads (S.2.2.2.1 + k + 1)
      rw [Int.add_assoc] at this ⊢
      exact this) rfl
    have hL3 : MLay hh1 i (S.1 i).1 (S.1 i).2 := hL2.moved (MR.doc hM3 hi) (by rw [ehh1, ueh_n (by decide)]) (by rw [ehh1, ueh_n (by decide)])
    have fr3 : ∀ j, j ≠ 91 → (j < 93 ∨ 98 < j) → hh1 j = h j := fun j x y => by rw [ehh1, ueh_n x]; exact fr2 j x y
    refine g_aload_n (q := 30) rfl rfl dX8_asks_29 rfl ?_
    refine g_iload_n (q := 31) rfl rfl dX8_asks_30 rfl ?_
    refine g_iload_n (q := 32) rfl rfl dX8_asks_31 rfl ?_
    refine g_Vr (q := 35) (d' := 1) (i := 90) (av := [.int (iI (i)), .int (iI (k))]) (st := []) (v := .int (iI ((S.1 i).2 (pb (S.1 i).1 (S.1 i).2 (k + 1) - 1)))) kvX8_99 (t_X8_lastIn l hh1 i (S.1 i).1 (S.1 i).2 hL3 k hk) (by decide) fc2 rfl (Nat.le_of_ble_eq_true rfl) ⟨(Nat.le_of_ble_eq_true rfl), (Nat.le_of_ble_eq_true rfl)⟩ ⟨(Nat.le_of_ble_eq_true rfl), (Nat.le_of_ble_eq_true rfl)⟩ rfl rfl dX8_asks_32 rfl ?_
    refine g_iload_n (q := 36) rfl rfl dX8_asks_35 rfl ?_
    refine g_icmp_lt (t := 66) (q := 39) ⟨by omega, by omega⟩ ⟨by omega, by omega⟩ dX8_asks_36 rfl rfl (fun c36 => ?_) (fun c36 => ?_)
    · refine g_iinc (q := 69) (al2 := [some (.ref (90)), some (.int (iI (i))), some (.int (iI (x))), some (.int (iI (k + 1)))]) rfl (by decide) rfl rfl dX8_asks_66 rfl ?_
      refine g_goto (q := 7) dX8_asks_69 rfl ?_
      exact ih (k + 1, hh1) ⟨show k + 1 ≤ pn (S.1 i).1 (S.1 i).2 by omega, by rw [i2, fs]; exact kqF_s (by omega), ⟨_, _, _, _, _, hM3⟩, hL3, fr3⟩ (by show pn (S.1 i).1 (S.1 i).2 - (k + 1) < pn (S.1 i).1 (S.1 i).2 - k; omega)
    · have e1 : kq (S.1 i).1 (S.1 i).2 x = k := by rw [i2, fs]; exact kqF_e (by omega)
      refine g_iload_n (q := 40) rfl rfl dX8_asks_39 rfl ?_
      refine g_aload_n (q := 41) rfl rfl dX8_asks_40 rfl ?_
      refine g_iload_n (q := 42) rfl rfl dX8_asks_41 rfl ?_
      refine g_iload_n (q := 43) rfl rfl dX8_asks_42 rfl ?_
      refine g_Vr (q := 46) (d' := 1) (i := 90) (av := [.int (iI (i)), .int (iI (k))]) (st := [.int (iI (x))]) (v := .int (iI ((S.1 i).2 (pb (S.1 i).1 (S.1 i).2 k)))) kvX8_102 (t_X8_firstIn l hh1 i (S.1 i).1 (S.1 i).2 hL3 k hk) (by decide) fc2 rfl (Nat.le_of_ble_eq_true rfl) ⟨(Nat.le_of_ble_eq_true rfl), (Nat.le_of_ble_eq_true rfl)⟩ ⟨(Nat.le_of_ble_eq_true rfl), (Nat.le_of_ble_eq_true rfl)⟩ rfl rfl dX8_asks_43 rfl ?_
      refine g_icmp_gt (t := 58) (q := 49) ⟨by omega, by omega⟩ ⟨by omega, by omega⟩ dX8_asks_46 rfl rfl (fun c46 => ?_) (fun c46 => ?_)
      · have e2 : qry S i x = qIn (addR S ((k : Int) + 1)) i k x := by unfold qry; simp only []; rw [e1, if_pos (by omega), if_neg (by omega)]
        refine g_aload_n (q := 59) rfl rfl dX8_asks_58 rfl ?_
        refine g_iload_n (q := 60) rfl rfl dX8_asks_59 rfl ?_
        refine g_iload_n (q := 61) rfl rfl dX8_asks_60 rfl ?_
        refine g_iload_n (q := 62) rfl rfl dX8_asks_61 rfl ?_
        refine g_Vw (q := 65) (d' := 6) (i := 90) (av := [.int (iI (i)), .int (iI (k)), .int (iI (x))]) (st := []) kvX8_139 (t_X8_opens l hh1 th (addR S ((k : Int) + 1)) sv ⟨_, _, _, _, _, hM3⟩ i hi hL3 k hk x x5 (by show (S.1 i).2 (pb (S.1 i).1 (S.1 i).2 k) < x; omega) (by show x ≤ (S.1 i).2 (pb (S.1 i).1 (S.1 i).2 (k + 1) - 1); omega)) (by decide) fc2 rfl (Nat.le_of_ble_eq_true rfl) ⟨(Nat.le_of_ble_eq_true rfl), (Nat.le_of_ble_eq_true rfl)⟩ ⟨(Nat.le_of_ble_eq_true rfl), (Nat.le_of_ble_eq_true rfl)⟩ rfl rfl dX8_asks_62 rfl (fun v h4 hp => ?_)
        obtain ⟨rfl, p1, p2⟩ := hp
        exact g_ireturn (fun z => NN_f z) (Nat.le_of_ble_eq_true rfl) (Nat.le_of_ble_eq_true rfl) dX8_asks_65 rfl (wP_in ⟨by rw [e2], by rw [e2]; exact p1, fun j a b => by rw [p2 j a]; exact fr3 j a b⟩)
      · have e2 : qry S i x = ((S.1 i).2 (pb (S.1 i).1 (S.1 i).2 k), addR S ((k : Int) + 1)) := by unfold qry; simp only []; rw [e1, if_pos (by omega), if_pos (by omega)]
        refine g_aload_n (q := 50) rfl rfl dX8_asks_49 rfl ?_
        refine g_iload_n (q := 51) rfl rfl dX8_asks_50 rfl ?_
        refine g_iload_n (q := 52) rfl rfl dX8_asks_51 rfl ?_
        refine g_Vr (q := 55) (d' := 1) (i := 90) (av := [.int (iI (i)), .int (iI (k))]) (st := []) (v := .int (iI ((S.1 i).2 (pb (S.1 i).1 (S.1 i).2 k)))) kvX8_102 (t_X8_firstIn l hh1 i (S.1 i).1 (S.1 i).2 hL3 k hk) (by decide) fc2 rfl (Nat.le_of_ble_eq_true rfl) ⟨(Nat.le_of_ble_eq_true rfl), (Nat.le_of_ble_eq_true rfl)⟩ ⟨(Nat.le_of_ble_eq_true rfl), (Nat.le_of_ble_eq_true rfl)⟩ rfl rfl dX8_asks_52 rfl ?_
        refine g_goto (q := 65) dX8_asks_55 rfl ?_
        exact g_ireturn (fun z => NN_f z) (Nat.le_of_ble_eq_true rfl) (Nat.le_of_ble_eq_true rfl) dX8_asks_65 rfl (wP_in ⟨by rw [e2], by rw [e2]; exact ⟨_, _, _, _, _, hM3⟩, fr3⟩)
