/-! ===== the law ===== -/
def lawP : Post := fun o _ _ => o = .inl (some (.int (iI 1)))
set_option maxRecDepth 4000 in
theorem law_G (l : Launch) (L : Nat) (xs : Nat → Int32) (u : UInt32) (h : EHp) (hL : L ≤ 2560) : G l (scX L xs) mL_law 14 601024 7293034 (lawP) 0 0 0 [some (.float (u)), none, none, none, none, none, none, none, none] [] (0, true) h := by
  refine g_new (q := 3) nwL_8 rfl (Nat.le_of_ble_eq_true rfl) (Nat.le_of_ble_eq_true rfl) dL_law_0 rfl ?_
  show G l (scX L xs) mL_law 14 601024 7293034 (lawP) 1 6 3 [some (.float (u)), none, none, none, none, none, none, none, none] [.ref (0)] (1, true) (ueh h (0) (cO 6 [.null, .null, .null, .null, .null, .null]))
  refine hp_in (fun hh1 ehh1 => ?_)
  have fc2 : hh1 0 = cO 6 [.null, .null, .null, .null, .null, .null] := by rw [ehh1]; exact ueh_s
  refine g_dup (q := 4) rfl dL_law_3 rfl ?_
  refine g_Iv (q := 7) (d' := 4) (mc' := 89) (ms' := 9946) (i := 0) (av := []) (st := [.ref (0)]) (M := 90) kiL_81 (t_X7_init l hh1 fc2) rfl rfl rfl (Nat.le_of_ble_eq_true rfl) ⟨(Nat.le_of_ble_eq_true rfl), (Nat.le_of_ble_eq_true rfl)⟩ ⟨(Nat.le_of_ble_eq_true rfl), (Nat.le_of_ble_eq_true rfl)⟩ rfl dL_law_4 rfl (fun ha hC => ?_)
  show G l (scX L xs) mL_law 14 601024 7293034 (lawP) 90 9952 7 [some (.float (u)), none, none, none, none, none, none, none, none] [.ref (0)] (90, true) ha
  refine g_astore_n (q := 8) (al2 := [some (.float (u)), some (.ref (0)), none, none, none, none, none, none, none]) rfl (by decide) rfl rfl dL_law_7 rfl ?_
  refine g_new (q := 11) nwL_82 rfl (Nat.le_of_ble_eq_true rfl) (Nat.le_of_ble_eq_true rfl) dL_law_8 rfl ?_
  show G l (scX L xs) mL_law 14 601024 7293034 (lawP) 91 9964 11 [some (.float (u)), some (.ref (0)), none, none, none, none, none, none, none] [.ref (90)] (91, true) (ueh ha (90) (cO 7 [.int (iI (0)), .null, .null, .int (iI (0)), .null, .null, .null, .null, .null, .null, .null, .null]))
  refine hp_in (fun hh3 ehh3 => ?_)
  have fc4 : hh3 90 = cO 7 [.int (iI (0)), .null, .null, .int (iI (0)), .null, .null, .null, .null, .null, .null, .null, .null] := by rw [ehh3]; exact ueh_s
  refine g_dup (q := 12) rfl dL_law_11 rfl ?_
  refine g_Iv (q := 15) (d' := 1) (mc' := 10) (ms' := 1955) (i := 90) (av := []) (st := [.ref (90)]) (M := 101) kiL_84 (t_X8_init l hh3 fc4) rfl rfl rfl (Nat.le_of_ble_eq_true rfl) ⟨(Nat.le_of_ble_eq_true rfl), (Nat.le_of_ble_eq_true rfl)⟩ ⟨(Nat.le_of_ble_eq_true rfl), (Nat.le_of_ble_eq_true rfl)⟩ rfl dL_law_12 rfl (fun hb hp => ?_)
  show G l (scX L xs) mL_law 14 601024 7293034 (lawP) 101 11919 15 [some (.float (u)), some (.ref (0)), none, none, none, none, none, none, none] [.ref (90)] (101, true) hb
  obtain ⟨hM, fr⟩ := hp
  have hC1 : CRep hb S0 [] := hC.cells (fun j hj => by rw [fr j hj, ehh3, ueh_n (by omega)])
  refine g_astore_n (q := 16) (al2 := [some (.float (u)), some (.ref (0)), some (.ref (90)), none, none, none, none, none, none]) rfl (by decide) rfl rfl dL_law_15 rfl ?_
  refine g_iconst (q := 17) dL_law_16 rfl ?_
  refine g_newa_long (q := 19) (nn := 1) ak_long rfl (by decide) (Nat.le_of_ble_eq_true rfl) (Nat.le_of_ble_eq_true rfl) dL_law_17 rfl ?_
  show G l (scX L xs) mL_law 14 601024 7293034 (lawP) 102 11920 19 [some (.float (u)), some (.ref (0)), some (.ref (90)), none, none, none, none, none, none] [.ref (101)] (102, true) (ueh hb (101) (cJ 1 (fun _ => 0)))
  refine hp_in (fun hh5 ehh5 => ?_)
  have fc6 : hh5 101 = cJ 1 (fun _ => 0) := by rw [ehh5]; exact ueh_s
  refine g_astore_n (q := 20) (al2 := [some (.float (u)), some (.ref (0)), some (.ref (90)), some (.ref (101)), none, none, none, none, none]) rfl (by decide) rfl rfl dL_law_19 rfl ?_
  refine g_iconst (q := 21) dL_law_20 rfl ?_
  refine g_newa_double (q := 23) (nn := 1) ak_double rfl (by decide) (Nat.le_of_ble_eq_true rfl) (Nat.le_of_ble_eq_true rfl) dL_law_21 rfl ?_
  show G l (scX L xs) mL_law 14 601024 7293034 (lawP) 103 11921 23 [some (.float (u)), some (.ref (0)), some (.ref (90)), some (.ref (101)), none, none, none, none, none] [.ref (102)] (103, true) (ueh hh5 (102) (cD 1 (fun _ => 0)))
  refine hp_in (fun hh7 ehh7 => ?_)
  have fc8 : hh7 101 = cJ 1 (fun _ => 0) := by rw [ehh7, ueh_n (by decide)]; exact fc6
  have fc9 : hh7 102 = cD 1 (fun _ => 0) := by rw [ehh7]; exact ueh_s
  refine g_astore (q := 25) (al2 := [some (.float (u)), some (.ref (0)), some (.ref (90)), some (.ref (101)), some (.ref (102)), none, none, none, none]) (by decide) rfl rfl dL_law_23 rfl ?_
  have hC2 : CRep hh7 S0 [] := hC1.cells (fun j hj => by rw [ehh7, ueh_n (by omega), ehh5, ueh_n (by omega)])
  have hM2 : MRep hh7 0 S0 [] := hM.cells (fun j a b => by rw [ehh7, ueh_n (by omega), ehh5, ueh_n (by omega)])
  have hW0 : LWo hh7 S0 [] := ⟨hC2, ⟨0, hM2⟩, ⟨_, fc8⟩, ⟨_, fc9⟩⟩
  refine g_loose ?_
  show G l (scX L xs) mL_law 14 601024 7293034 (lawP) 103 11921 25 [some (.float (u)), some (.ref (0)), some (.ref (90)), some (.ref (101)), some (.ref (102)), none, none, none, none] [] NN hh7
  refine g_iconst (q := 26) dL_law_25 rfl ?_
  refine g_istore (q := 28) (al2 := [some (.float (u)), some (.ref (0)), some (.ref (90)), some (.ref (101)), some (.ref (102)), some (.int (iI (0))), none, none, none]) (by decide) rfl rfl dL_law_26 rfl ?_
  refine loopG (σ := Nat × ASt × List ASt × EHp) (P := fun zz => match zz with | (t, S, sv, h1) => G l (scX L xs) mL_law 14 601024 7293034 (lawP) (103 + t) (11921 + 6 * t) 28 [some (.float (u)), some (.ref (0)), some (.ref (90)), some (.ref (101)), some (.ref (102)), some (.int (iI (5 * (t : Int)))), none, none, none] [] NN h1) (I := fun zz => match zz with | (t, S, sv, h1) => 5 * t ≤ L ∧ LWo h1 S sv) (fun zz => match zz with | (t, S, sv, h1) => L - 5 * t) ?_ (0, S0, [], hh7) ⟨by omega, hW0⟩
  rintro ⟨t, S, sv, h1⟩ hI ih
  obtain ⟨ht0, hW⟩ := hI
  refine g_iload (q := 30) rfl dL_law_28 rfl ?_
  refine g_aload_s (q := 31) rfl rfl dL_law_30 rfl ?_
  refine g_slen (q := 32) dL_law_31 rfl ?_
  refine g_iconst (q := 33) dL_law_32 rfl ?_
  refine g_isub (q := 34) dL_law_33 rfl ?_
  refine g_icmp_gt (t := 1536) (q := 37) ⟨by omega, by omega⟩ ⟨by omega, by omega⟩ dL_law_34 rfl rfl (fun c34 => ?_) (fun c34 => ?_)
  · refine g_iconst (q := 1537) dL_law_1536 rfl ?_
    exact g_zreturn (fun z => NN_f z) (by omega) (by omega) dL_law_1537 rfl (by decide) rfl
  · have ht : 5 * t + 5 ≤ L := by omega
    have next : ∀ (S' : ASt) (sv' : List ASt) (h' : EHp), LWo h' S' sv' → G l (scX L xs) mL_law 14 601024 7293034 lawP (103 + t + 1) (11921 + 6 * t + 6) 1530 [some (.float (u)), some (.ref (0)), some (.ref (90)), some (.ref (101)), some (.ref (102)), some (.int (iI (5 * (t : Int)))), none, none, none] [] NN h' := by
      intro S' sv' h' hW'
      refine g_iinc (q := 1533) (al2 := [some (.float (u)), some (.ref (0)), some (.ref (90)), some (.ref (101)), some (.ref (102)), some (.int (iI ((5 * (t : Int)) + 5))), none, none, none]) rfl (by decide) rfl rfl dL_law_1530 rfl ?_
      refine g_goto (q := 28) dL_law_1533 rfl ?_
      rw [show (5 * (t : Int)) + 5 = 5 * ((t + 1 : Nat) : Int) by omega, show 103 + t + 1 = 103 + (t + 1) from rfl, show 11921 + 6 * t + 6 = 11921 + 6 * (t + 1) by omega]
      exact ih (t + 1, S', sv', h') ⟨by omega, hW'⟩ (by show L - 5 * (t + 1) < L - 5 * t; omega)
    refine g_aload_s (q := 38) rfl rfl dL_law_37 rfl ?_
    refine g_iload (q := 40) rfl dL_law_38 rfl ?_
    refine g_sld (q := 41) (by omega) (by omega) (by omega) dL_law_40 rfl ?_
    refine g_bipush (q := 43) (by decide) dL_law_41 rfl ?_
    refine g_iand (q := 44) dL_law_43 rfl ?_
    obtain ⟨j, hj, ej⟩ := iI_and31 (xs (5 * (t : Int)).toNat)
    rw [ej]
    match j, hj with
    | 0, _ => exact g_tableIn (x := ((0 : Nat) : Int)) (off := 112) (q := 156) ⟨by decide, by decide⟩ dL_law_44 (by decide) (by decide) rfl rfl (lc_append l L xs u lawP t h1 S sv hL ht hW next)
    | 1, _ => exact g_tableIn (x := ((1 : Nat) : Int)) (off := 180) (q := 224) ⟨by decide, by decide⟩ dL_law_44 (by decide) (by decide) rfl rfl (lc_appendRange l L xs u lawP t h1 S sv hL ht hW next)
    | 2, _ => exact g_tableIn (x := ((2 : Nat) : Int)) (off := 272) (q := 316) ⟨by decide, by decide⟩ dL_law_44 (by decide) (by decide) rfl rfl (lc_clear l L xs u lawP t h1 S sv hL ht hW next)
    | 3, _ => exact g_tableIn (x := ((3 : Nat) : Int)) (off := 328) (q := 372) ⟨by decide, by decide⟩ dL_law_44 (by decide) (by decide) rfl rfl (lc_size l L xs u lawP t h1 S sv hL ht hW next)
    | 4, _ => exact g_tableIn (x := ((4 : Nat) : Int)) (off := 384) (q := 428) ⟨by decide, by decide⟩ dL_law_44 (by decide) (by decide) rfl rfl (lc_document l L xs u lawP t h1 S sv hL ht hW next)
    | 5, _ => exact g_tableIn (x := ((5 : Nat) : Int)) (off := 452) (q := 496) ⟨by decide, by decide⟩ dL_law_44 (by decide) (by decide) rfl rfl (lc_rank l L xs u lawP t h1 S sv hL ht hW next)
    | 6, _ => exact g_tableIn (x := ((6 : Nat) : Int)) (off := 520) (q := 564) ⟨by decide, by decide⟩ dL_law_44 (by decide) (by decide) rfl rfl (lc_partitions l L xs u lawP t h1 S sv hL ht hW next)
    | 7, _ => exact g_tableIn (x := ((7 : Nat) : Int)) (off := 576) (q := 620) ⟨by decide, by decide⟩ dL_law_44 (by decide) (by decide) rfl rfl (lc_partition l L xs u lawP t h1 S sv hL ht hW next)
    | 8, _ => exact g_tableIn (x := ((8 : Nat) : Int)) (off := 656) (q := 700) ⟨by decide, by decide⟩ dL_law_44 (by decide) (by decide) rfl rfl (lc_codeLength l L xs u lawP t h1 S sv hL ht hW next)
    | 9, _ => exact g_tableIn (x := ((9 : Nat) : Int)) (off := 712) (q := 756) ⟨by decide, by decide⟩ dL_law_44 (by decide) (by decide) rfl rfl (lc_codeBit l L xs u lawP t h1 S sv hL ht hW next)
    | 10, _ => exact g_tableIn (x := ((10 : Nat) : Int)) (off := 780) (q := 824) ⟨by decide, by decide⟩ dL_law_44 (by decide) (by decide) rfl rfl (lc_fixedLength l L xs u lawP t h1 S sv hL ht hW next)
    | 11, _ => exact g_tableIn (x := ((11 : Nat) : Int)) (off := 848) (q := 892) ⟨by decide, by decide⟩ dL_law_44 (by decide) (by decide) rfl rfl (lc_bitsPerDocument l L xs u lawP t h1 S sv hL ht hW next)
    | 12, _ => exact g_tableIn (x := ((12 : Nat) : Int)) (off := 925) (q := 969) ⟨by decide, by decide⟩ dL_law_44 (by decide) (by decide) rfl rfl (lc_nextAtLeast l L xs u lawP t h1 S sv hL ht hW next)
    | 13, _ => exact g_tableIn (x := ((13 : Nat) : Int)) (off := 993) (q := 1037) ⟨by decide, by decide⟩ dL_law_44 (by decide) (by decide) rfl rfl (lc_countIntersection l L xs u lawP t h1 S sv hL ht hW next)
    | 14, _ => exact g_tableIn (x := ((14 : Nat) : Int)) (off := 1049) (q := 1093) ⟨by decide, by decide⟩ dL_law_44 (by decide) (by decide) rfl rfl (lc_intersect l L xs u lawP t h1 S sv hL ht hW next)
    | 15, _ => exact g_tableIn (x := ((15 : Nat) : Int)) (off := 1117) (q := 1161) ⟨by decide, by decide⟩ dL_law_44 (by decide) (by decide) rfl rfl (lc_unite l L xs u lawP t h1 S sv hL ht hW next)
    | 16, _ => exact g_tableIn (x := ((16 : Nat) : Int)) (off := 1197) (q := 1241) ⟨by decide, by decide⟩ dL_law_44 (by decide) (by decide) rfl rfl (lc_subtract l L xs u lawP t h1 S sv hL ht hW next)
    | 17, _ => exact g_tableIn (x := ((17 : Nat) : Int)) (off := 1277) (q := 1321) ⟨by decide, by decide⟩ dL_law_44 (by decide) (by decide) rfl rfl (lc_reads l L xs u lawP t h1 S sv hL ht hW next)
    | 18, _ => exact g_tableIn (x := ((18 : Nat) : Int)) (off := 1290) (q := 1334) ⟨by decide, by decide⟩ dL_law_44 (by decide) (by decide) rfl rfl (lc_hits l L xs u lawP t h1 S sv hL ht hW next)
    | 19, _ => exact g_tableIn (x := ((19 : Nat) : Int)) (off := 1303) (q := 1347) ⟨by decide, by decide⟩ dL_law_44 (by decide) (by decide) rfl rfl (lc_setCapacity l L xs u lawP t h1 S sv hL ht hW next)
    | 20, _ => exact g_tableIn (x := ((20 : Nat) : Int)) (off := 1359) (q := 1403) ⟨by decide, by decide⟩ dL_law_44 (by decide) (by decide) rfl rfl (lc_cached l L xs u lawP t h1 S sv hL ht hW next)
    | 21, _ => exact g_tableIn (x := ((21 : Nat) : Int)) (off := 1372) (q := 1416) ⟨by decide, by decide⟩ dL_law_44 (by decide) (by decide) rfl rfl (lc_cachedAt l L xs u lawP t h1 S sv hL ht hW next)
    | 22, _ => exact g_tableIn (x := ((22 : Nat) : Int)) (off := 1428) (q := 1472) ⟨by decide, by decide⟩ dL_law_44 (by decide) (by decide) rfl rfl (lc_undo l L xs u lawP t h1 S sv hL ht hW next)
    | 23, _ => exact g_tableIn (x := ((23 : Nat) : Int)) (off := 1472) (q := 1516) ⟨by decide, by decide⟩ dL_law_44 (by decide) (by decide) rfl rfl (lc_digest l L xs u lawP t h1 S sv hL ht hW next)
    | k + 24, hk => exact g_tableOut (x := ((k + 24 : Nat) : Int)) (q := 1530) ⟨by omega, by omega⟩ dL_law_44 (Or.inr (by omega)) rfl (g_wide (k' := (103 + t + 1)) (n' := (11921 + 6 * t + 6)) (by omega) (by omega) (next S sv h1 hW))
