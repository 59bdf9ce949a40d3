/-! sets of numbers as longs -/
def hb (x : Int64) (i : Nat) : Bool := x.toBitVec.getLsbD i
theorem hb_ext {x y : Int64} (h : ∀ i, i < 64 → hb x i = hb y i) : x = y := Int64.toBitVec_inj.mp (BitVec.eq_of_getLsbD_eq fun i hi => h i hi)
theorem hb_or (x y : Int64) (i : Nat) : hb (x ||| y) i = (hb x i || hb y i) := by
  unfold hb; rw [Int64.toBitVec_or, BitVec.getLsbD_or]
theorem hb_and (x y : Int64) (i : Nat) : hb (x &&& y) i = (hb x i && hb y i) := by
  unfold hb; rw [Int64.toBitVec_and, BitVec.getLsbD_and]
theorem hb_ge {x : Int64} {i : Nat} (h : 64 ≤ i) : hb x i = false := BitVec.getLsbD_of_ge _ _ h
theorem hb_0 (i : Nat) : hb 0 i = false := by
  unfold hb
  show (0#64).getLsbD i = false
  simp
theorem hb_not {x : Int64} {i : Nat} (h : i < 64) : hb (x ^^^ (-1)) i = !hb x i := by
  unfold hb
  have ha : (-1 : Int64).toBitVec = BitVec.allOnes 64 := by decide
  rw [Int64.toBitVec_xor, ha, BitVec.getLsbD_xor, BitVec.getLsbD_allOnes]
  simp [h]
theorem hb_tp : ∀ g, g < 64 → (hj_shl 1 (nI g)).toBitVec = BitVec.twoPow 64 g := by decide +kernel
theorem hb_bit {g : Nat} (hg : g < 64) (i : Nat) : hb (hj_shl 1 (nI g)) i = decide (g = i) := by
  unfold hb
  rw [hb_tp g hg, BitVec.getLsbD_twoPow]
  simp [hg]
theorem hb_sn : ∀ g, g < 64 → ((nI g).toInt64.toUInt64 &&& Int64.toUInt64 63).toNat = g := by decide +kernel
theorem hb_and1 (y : Int64) : y &&& 1 = (if hb y 0 then 1 else 0) := by
  apply hb_ext
  intro i hi
  rw [hb_and]
  have h1 : ∀ j : Nat, hb 1 j = decide (j = 0) := by
    intro j
    unfold hb
    show (1#64).getLsbD j = _
    rw [BitVec.getLsbD_one]
    by_cases hj : j = 0 <;> simp [hj]
  rw [h1]
  by_cases h0 : i = 0
  · subst h0
    cases hb y 0 <;> simp [h1, hb_0]
  · cases hb y 0 <;> simp [h1, hb_0, h0]
theorem hb_ush {x : Int64} {g : Nat} (hg : g < 64) : hb (hj_ushr x (nI g)) 0 = hb x g := by
  unfold hb hj_ushr
  have e : (x.toUInt64 >>> ((nI g).toInt64.toUInt64 &&& Int64.toUInt64 63)).toInt64.toBitVec = x.toBitVec >>> g := by
    apply BitVec.eq_of_toNat_eq
    show (x.toUInt64 >>> ((nI g).toInt64.toUInt64 &&& Int64.toUInt64 63)).toNat = _
    rw [UInt64.toNat_shiftRight, hb_sn g hg, Nat.mod_eq_of_lt hg, BitVec.toNat_ushiftRight]
    rfl
  rw [e, BitVec.getLsbD_ushiftRight, Nat.add_zero]
theorem hb_sm : ∀ g, g < 64 → (((nI g).toInt64 &&& 63).toBitVec.smod 64).toNat = g := by decide +kernel
theorem hb_shr {x : Int64} {g : Nat} (hg : g < 64) : hb (hj_shr x (nI g)) 0 = hb x g := by
  unfold hb hj_shr
  rw [Int64.toBitVec_shiftRight]
  show (x.toBitVec.sshiftRight (((nI g).toInt64 &&& 63).toBitVec.smod 64).toNat).getLsbD 0 = _
  rw [hb_sm g hg, BitVec.getLsbD_sshiftRight]
  simp [hg]
/-- the class's test, and the reference's -/
theorem hb_cls {x : Int64} {g : Nat} (hg : g < 64) : hj_ushr x (nI g) &&& 1 = 0 ↔ hb x g = false := by
  rw [hb_and1, hb_ush hg]
  cases hb x g <;> simp
theorem hb_ref {x : Int64} {g : Nat} (hg : g < 64) : hj_shr x (nI g) &&& 1 = 1 ↔ hb x g = true := by
  rw [hb_and1, hb_shr hg]
  cases hb x g <;> simp
theorem hb_ne0 {x : Int64} : x ≠ 0 ↔ ∃ i, i < 64 ∧ hb x i = true := by
  constructor
  · intro h
    apply Classical.byContradiction
    intro hn
    apply h
    apply hb_ext
    intro i hi
    rw [hb_0]
    cases hx : hb x i with
    | false => rfl
    | true => exact absurd ⟨i, hi, hx⟩ hn
  · rintro ⟨i, -, h⟩ rfl
    rw [hb_0] at h
    cases h
