/-! ===== the class as a whole ===== -/
/-- the object and all that it holds; the lists that P names are as they must be -/
def CM (h : EHp) (S : ASt) (sv : List ASt) (P : Nat → Prop) : Prop :=
  h 0 = cO 6 [.ref 1, .ref 17, .ref 83, .ref 86, .ref 88, .ref 89] ∧ h 1 = cO 5 [.ref 2, .ref 3, .int (iI S.2.2.2.1), .int (iI S.2.2.2.2)] ∧ h 2 = cR 4 4 (lref 1) ∧ CA h 3 S.2.1 S.2.2.1 ∧
  (∀ i : Nat, i < 4 → P i → LA h (5 + 3 * i) (S.1 i).1 (S.1 i).2) ∧ (∃ nx, HA h 17 nx sv) ∧ (∃ Ws Es, h 83 = cO 3 [.ref 84, .ref 85] ∧ h 84 = cI 65 Ws ∧ h 85 = cI 65 Es) ∧ (∃ len bs, CR h 86 len bs) ∧ (∃ od, h 88 = cI 4 od) ∧ ∃ rs, h 89 = cI 128 rs
def CRep (h : EHp) (S : ASt) (sv : List ASt) : Prop := CM h S sv (fun _ => True)
def FrC (h h' : EHp) : Prop := ∀ j, 89 < j → h' j = h j
theorem crep_SA {h : EHp} {S : ASt} {sv : List ASt} (hC : CRep h S sv) : SA h 1 S := by
  obtain ⟨-, g1, g2, g3, g4, -⟩ := hC
  refine ⟨g1, g2, by decide, g3, fun i hi => ?_⟩
  have := g4 i hi trivial
  rw [show 1 + 4 + 3 * i = 5 + 3 * i by omega]
  exact this
/-- only cells of the state have changed -/
theorem crep_of {h h' : EHp} {S S' : ASt} {sv : List ASt} (hC : CRep h S sv) (hS : SA h' 1 S') (hF : FrS h h' 1) : CRep h' S' sv := by
  obtain ⟨g0, -, -, -, -, ⟨nx, g5⟩, ⟨Ws, Es, g6, g7, g8⟩, ⟨len, bs, g9, g10, g11⟩, ⟨od, g12⟩, ⟨rs, g13⟩⟩ := hC
  obtain ⟨k1, k2, k3, k4, k5⟩ := hS
  refine ⟨(hF 0 (by omega)).trans g0, k1, k2, k4, fun i hi _ => ?_, ⟨nx, g5.moved (fun j a b => hF j (by omega))⟩, ⟨Ws, Es, (hF _ (by omega)).trans g6, (hF _ (by omega)).trans g7, (hF _ (by omega)).trans g8⟩, ⟨len, bs, (hF _ (by omega)).trans g9, (hF _ (by omega)).trans g10, g11⟩, ⟨od, (hF _ (by omega)).trans g12⟩, ⟨rs, (hF _ (by omega)).trans g13⟩⟩
  have := k5 i hi
  rw [show 1 + 4 + 3 * i = 5 + 3 * i by omega] at this
  exact this
/-- a saved state more -/
theorem crep_sv {h h' : EHp} {S : ASt} {sv sv' : List ASt} {nx' : Nat} (hC : CRep h S sv) (hH : HA h' 17 nx' sv') (hF : FrH h h' 17) : CRep h' S sv' := by
  obtain ⟨g0, k1, k2, k4, k5, -, ⟨Ws, Es, g6, g7, g8⟩, ⟨len, bs, g9, g10, g11⟩, ⟨od, g12⟩, ⟨rs, g13⟩⟩ := hC
  exact ⟨(hF 0 (by omega)).trans g0, (hF _ (by omega)).trans k1, (hF _ (by omega)).trans k2, k4.moved (hF _ (by omega)) (hF _ (by omega)), fun i hi _ => (k5 i hi trivial).moved (hF _ (by omega)) (hF _ (by omega)) (hF _ (by omega)), ⟨nx', hH⟩, ⟨Ws, Es, (hF _ (by omega)).trans g6, (hF _ (by omega)).trans g7, (hF _ (by omega)).trans g8⟩, ⟨len, bs, (hF _ (by omega)).trans g9, (hF _ (by omega)).trans g10, g11⟩, ⟨od, (hF _ (by omega)).trans g12⟩, ⟨rs, (hF _ (by omega)).trans g13⟩⟩
/-- a list written anew -/
def wrL (S : ASt) (i : Nat) (c : Int) (f : Int → Int) : ASt := (fun j => if j = i then (c, f) else S.1 j, S.2.1, S.2.2.1.filter (dbp (100 * i) (100 * i + 100 - 1)), S.2.2.2.1, S.2.2.2.2)
theorem wrL_s {S : ASt} {i : Nat} {c : Int} {f : Int → Int} : (wrL S i c f).1 i = (c, f) := if_pos rfl
theorem wrL_n {S : ASt} {i j : Nat} {c : Int} {f : Int → Int} (h : j ≠ i) : (wrL S i c f).1 j = S.1 j := if_neg h
theorem LA_ag {h : EHp} {a : Nat} {c : Int} {ds f : Int → Int} (hL : LA h a c ds) (hg : Ag c ds f) : LA h a c f := by
  obtain ⟨m, d0, fa, hA, g1, g2, g3⟩ := hL
  exact ⟨m, d0, fa, hA, fun i a b => (g1 i a b).trans (hg i a b), ag_LOk (ag_symm hg) g2, ag_FOk (ag_symm hg) g2 g3⟩
def push4 (S : ASt) (sv : List ASt) : List ASt := (S :: sv).take 4
/-- arguments in their ranges -/
def apF (c : Int) (f : Int → Int) (first step : Int) : Int → Int := fun j => if j < c then f j else first + (j - c) * step
