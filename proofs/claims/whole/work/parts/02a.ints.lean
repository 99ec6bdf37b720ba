/-! ===== whole numbers: an int of the machine as the number z that it stands for ===== -/
def iI (z : Int) : Int32 := Int32.ofInt z
abbrev IR (z : Int) : Prop := -2147483648 ≤ z ∧ z < 2147483648
theorem iI_add (a b : Int) : iI a + iI b = iI (a + b) := by unfold iI; exact (Int32.ofInt_add a b).symm
theorem iI_sub (a b : Int) : iI a - iI b = iI (a - b) := by unfold iI; exact (Int32.ofInt_sub a b).symm
theorem iI_mul (a b : Int) : iI a * iI b = iI (a * b) := by unfold iI; exact (Int32.ofInt_mul a b).symm
theorem iI_toInt {z : Int} (h : IR z) : (iI z).toInt = z := by
  unfold iI
  exact Int32.toInt_ofInt_of_le (by have := h.1; simpa using this) (by have := h.2; simpa using this)
theorem iI_self (x : Int32) : iI x.toInt = x := by unfold iI; exact Int32.ofInt_toInt x
theorem iI_IR (x : Int32) : IR x.toInt := ⟨by have := Int32.le_toInt x; simpa using this, by have := Int32.toInt_lt x; simpa using this⟩
theorem iI_lt {a b : Int} (ha : IR a) (hb : IR b) : iI a < iI b ↔ a < b := by rw [Int32.lt_iff_toInt_lt, iI_toInt ha, iI_toInt hb]
theorem iI_le {a b : Int} (ha : IR a) (hb : IR b) : iI a ≤ iI b ↔ a ≤ b := by rw [Int32.le_iff_toInt_le, iI_toInt ha, iI_toInt hb]
theorem iI_eq {a b : Int} (ha : IR a) (hb : IR b) : iI a = iI b ↔ a = b := by
  constructor
  · intro h
    have h2 := congrArg Int32.toInt h
    rwa [iI_toInt ha, iI_toInt hb] at h2
  · intro h; rw [h]
theorem iI_0 : (0 : Int32) = iI 0 := by decide
theorem iI_lt0 {a : Int} (ha : IR a) : iI a < 0 ↔ a < 0 := by rw [iI_0, iI_lt ha (by decide)]
theorem iI_le0 {a : Int} (ha : IR a) : iI a ≤ 0 ↔ a ≤ 0 := by rw [iI_0, iI_le ha (by decide)]
theorem iI_eq0 {a : Int} (ha : IR a) : iI a = 0 ↔ a = 0 := by rw [iI_0, iI_eq ha (by decide)]
theorem iI_nI (n : Nat) : iI n = nI n := by
  unfold iI nI
  first | rfl | exact Int32.ofInt_eq_ofNat | simp
theorem iI_clamp {z : Int} (h0 : 0 ≤ z) (h : z < 2147483648) : (iI z).toNatClampNeg = z.toNat := by
  obtain ⟨n, rfl⟩ := Int.eq_ofNat_of_zero_le h0
  rw [iI_nI, nI_clamp (by omega)]
  omega
theorem iI_in {z : Int} {n : Nat} (h0 : 0 ≤ z) (h : z < n) (hn : n < 2147483648) : vp_in (iI z) n := by
  obtain ⟨k, rfl⟩ := Int.eq_ofNat_of_zero_le h0
  rw [iI_nI]
  exact vp_in_nI (by omega) (by omega)
theorem iI_div {a b : Int} (ha : 0 ≤ a) (ha2 : a < 2147483648) (hb : 0 < b) (hb2 : b < 2147483648) : iI a / iI b = iI (a / b) := by
  obtain ⟨n, rfl⟩ := Int.eq_ofNat_of_zero_le ha
  obtain ⟨k, rfl⟩ := Int.eq_ofNat_of_zero_le (Int.le_of_lt hb)
  rw [iI_nI, iI_nI, pk_div (by omega) (by omega) (by omega), ← iI_nI]
  congr 1
theorem iI_rem {a b : Int} (ha : 0 ≤ a) (ha2 : a < 2147483648) (hb : 0 < b) (hb2 : b < 2147483648) : iI a - iI a / iI b * iI b = iI (a % b) := by
  rw [iI_div ha ha2 hb hb2, iI_mul, iI_sub]
  congr 1
  have := Int.mul_ediv_add_emod a b
  rw [Int.mul_comm] at this
  omega
theorem iI_sh : ∀ k : Nat, k < 32 → ((iI k &&& 31).toBitVec.smod 32).toNat = k := by
  intro k hk
  have : ∀ k : Fin 32, ((iI (k.val : Int) &&& 31).toBitVec.smod 32).toNat = k.val := by decide +kernel
  exact this ⟨k, hk⟩
theorem iI_shr {a : Int} {k : Nat} (h0 : 0 ≤ a) (h : a < 2147483648) (hk : k < 32) : iI a >>> (iI k &&& 31) = iI (a / 2 ^ k) := by
  obtain ⟨n, rfl⟩ := Int.eq_ofNat_of_zero_le h0
  rw [iI_nI n, pk_shrN (by omega) (iI k &&& 31) k (iI_sh k hk), ← iI_nI]
  congr 1
theorem iI_shl {a : Int} {k : Nat} (h0 : 0 ≤ a) (h : a * 2 ^ k < 2147483648) (hk : k < 32) : iI a <<< (iI k &&& 31) = iI (a * 2 ^ k) := by
  obtain ⟨n, rfl⟩ := Int.eq_ofNat_of_zero_le h0
  have h2 : n * 2 ^ k < 2147483648 := by
    have : ((n * 2 ^ k : Nat) : Int) < 2147483648 := by push_cast; exact h
    omega
  rw [iI_nI n, pk_shlN (iI k &&& 31) k (iI_sh k hk) (by omega), ← iI_nI]
  congr 1
theorem iI_andm {a : Int} (h0 : 0 ≤ a) (h : a < 4294967296) (k : Nat) {m : Int32} (hm : m.toBitVec.toNat = 2 ^ k - 1) : iI a &&& m = iI (a % 2 ^ k) := by
  obtain ⟨n, rfl⟩ := Int.eq_ofNat_of_zero_le h0
  rw [iI_nI n, pk_andN (by omega) k hm, ← iI_nI]
  congr 1
theorem iI_and1 {a : Int} (h0 : 0 ≤ a) (h : a < 2147483648) : iI a &&& iI 1 = iI (a % 2) := iI_andm h0 (by omega) 1 (by decide)
theorem iI_and31 (x : Int32) : ∃ j : Nat, j < 32 ∧ x &&& iI 31 = iI j := by
  obtain ⟨j, hj, e⟩ := pk_andE x (m := iI 31) 5 (by decide)
  exact ⟨j, hj, by rw [e, iI_nI]⟩
theorem iI_or01 {a b : Int} (ha : a = 0 ∨ a = 1) (hb : b = 0 ∨ b = 1) : iI a ||| iI b = iI (if a = 0 then b else 1) := by
  rcases ha with rfl | rfl <;> rcases hb with rfl | rfl <;> decide
theorem iI_l {a : Int} (h : IR a) : (iI a).toInt64 = Int64.ofInt a := by
  have := Int64.ofInt_int32ToInt (iI a)
  rw [iI_toInt h] at this
  exact this.symm
theorem iI_bool (c : Prop) [Decidable c] : (if c then iI 1 else iI 0) = iI (if c then 1 else 0) := by by_cases h : c <;> simp [h]
