/-! windows: bits -/
theorem sh_nat : ∀ v, v < 16 → ((nI v &&& 31 : Int32).toBitVec.smod 32#32) = BitVec.ofNat 32 v := by decide +kernel
theorem ushr_nat : ∀ v, v < 16 → ((nI v).toUInt32 &&& Int32.toUInt32 31) = UInt32.ofNat v := by decide +kernel
theorem bitI_iff {x : Int32} {d : Nat} (hd : d < 16) : bitI x d ↔ x.toBitVec.getLsbD d = true := by
  unfold bitI
  have e1 : (jushr x (nI d)).toBitVec = x.toBitVec >>> d := by
    show (x.toUInt32 >>> ((nI d).toUInt32 &&& Int32.toUInt32 31)).toBitVec = _
    rw [ushr_nat d hd, UInt32.toBitVec_shiftRight]
    have : (UInt32.ofNat d).toBitVec % 32 = BitVec.ofNat 32 d := by
      have z : ∀ v, v < 16 → (UInt32.ofNat v).toBitVec % 32 = BitVec.ofNat 32 v := by decide +kernel
      exact z d hd
    rw [this, BitVec.ushiftRight_eq']
    have t : (BitVec.ofNat 32 d).toNat = d := by rw [BitVec.toNat_ofNat]; omega
    rw [t]; rfl
  constructor
  · intro h
    have h2 := congrArg (fun y : Int32 => y.toBitVec.getLsbD 0) h
    have h3 : ((jushr x (nI d)).toBitVec &&& (1 : Int32).toBitVec).getLsbD 0 = true := h2
    rw [e1, BitVec.getLsbD_and, BitVec.getLsbD_ushiftRight, Nat.add_zero] at h3
    exact (Bool.and_eq_true_iff.mp h3).1
  · intro h
    refine Int32.toBitVec_inj.mp ?_
    show (jushr x (nI d)).toBitVec &&& 1#32 = 1#32
    rw [e1]
    refine BitVec.eq_of_getLsbD_eq fun i hi => ?_
    rw [BitVec.getLsbD_and, BitVec.getLsbD_ushiftRight]
    by_cases q : i = 0
    · subst q; rw [Nat.add_zero, h]; rfl
    · have : (1#32).getLsbD i = false := by
        have z : ∀ i, i < 32 → i ≠ 0 → (1#32).getLsbD i = false := by decide +kernel
        exact z i hi q
      rw [this, Bool.and_false]
theorem bit_one {d : Nat} (hd : d < 16) : bitI 1 d ↔ d = 0 := by
  rw [bitI_iff hd]
  have z : ∀ d, d < 16 → ((1 : Int32).toBitVec.getLsbD d = true ↔ d = 0) := by decide +kernel
  exact z d hd
theorem bit_or {x y : Int32} {d : Nat} (hd : d < 16) : bitI (x ||| y) d ↔ bitI x d ∨ bitI y d := by
  rw [bitI_iff hd, bitI_iff hd, bitI_iff hd]
  show (x.toBitVec ||| y.toBitVec).getLsbD d = true ↔ _
  rw [BitVec.getLsbD_or, Bool.or_eq_true]
theorem bit_shl {x : Int32} {d v : Nat} (hd : d < 16) (hv : v < 16) : bitI (x <<< (nI v &&& 31)) d ↔ v ≤ d ∧ bitI x (d - v) := by
  rw [bitI_iff hd, bitI_iff (by omega : d - v < 16), Int32.toBitVec_shiftLeft]
  have e : (nI v &&& 31 : Int32).toBitVec.smod 32 = BitVec.ofNat 32 v := sh_nat v hv
  rw [e, BitVec.shiftLeft_eq', BitVec.getLsbD_shiftLeft]
  have t : (BitVec.ofNat 32 v).toNat = v := by rw [BitVec.toNat_ofNat]; omega
  rw [t]
  have d32 : d < 32 := by omega
  simp only [d32, decide_true, Bool.true_and, Bool.and_eq_true, Bool.not_eq_true', decide_eq_false_iff_not]
  exact ⟨fun h => ⟨by omega, h.2⟩, fun h => ⟨by omega, h.2⟩⟩
theorem bit_sh1 {d v : Nat} (hd : d < 16) (hv : v < 16) : bitI ((1 : Int32) <<< (nI v &&& 31)) d ↔ d = v := by
  rw [bit_shl hd hv]
  constructor
  · rintro ⟨h1, h2⟩
    have := (bit_one (by omega)).mp h2
    omega
  · intro h; subst h
    exact ⟨Nat.le_refl _, (bit_one (by omega)).mpr (by omega)⟩
theorem bit_z {d : Nat} (hd : d < 16) : ¬ bitI 0 d := by
  rw [bitI_iff hd]
  have z : ∀ d, d < 16 → ¬ ((0 : Int32).toBitVec.getLsbD d = true) := by decide +kernel
  exact z d hd
theorem nI_rem {a : Nat} (h : a < 2 ^ 31) : nI a - nI a / 16 * 16 = nI (a % 16) := by
  have h1 : nI a / 16 = nI (a / 16) := by
    refine Int32.toInt_inj.mp ?_
    rw [Int32.toInt_div_of_ne_right _ _ (by decide), nI_toInt h, nI_toInt (by omega)]
    show (a : Int).tdiv 16 = ((a / 16 : Nat) : Int)
    rfl
  rw [h1, show (16 : Int32) = nI 16 from rfl, pk_mul, nI_sub (by omega)]
  congr 1; omega
