/-! sets of wants as numbers -/
theorem nI_bv (n : Nat) : (nI n).toBitVec = BitVec.ofNat 32 n := rfl
theorem p_and (a b : Nat) : nI a &&& nI b = nI (a &&& b) := by
  apply Int32.toBitVec_inj.mp
  rw [Int32.toBitVec_and, nI_bv, nI_bv, nI_bv, BitVec.ofNat_and]
theorem p_or (a b : Nat) : nI a ||| nI b = nI (a ||| b) := by
  apply Int32.toBitVec_inj.mp
  rw [Int32.toBitVec_or, nI_bv, nI_bv, nI_bv, BitVec.ofNat_or]
theorem p_xor (a b : Nat) : nI a ^^^ nI b = nI (a ^^^ b) := by
  apply Int32.toBitVec_inj.mp
  rw [Int32.toBitVec_xor, nI_bv, nI_bv, nI_bv, BitVec.ofNat_xor]
/-- the bits of a that b has not -/
def nd (a b : Nat) : Nat := a ^^^ (a &&& b)
theorem nd_bit (a b i : Nat) : (nd a b).testBit i = (a.testBit i && !b.testBit i) := by
  unfold nd
  rw [Nat.testBit_xor, Nat.testBit_and]
  cases a.testBit i <;> cases b.testBit i <;> rfl
theorem p_nd {a : Nat} (b : Nat) (ha : a < 2 ^ 31) : nI a &&& (nI b ^^^ (-1)) = nI (nd a b) := by
  apply Int32.toBitVec_inj.mp
  apply BitVec.eq_of_getLsbD_eq
  intro i hi
  rw [Int32.toBitVec_and, Int32.toBitVec_xor, nI_bv, nI_bv, nI_bv]
  rw [BitVec.getLsbD_and, BitVec.getLsbD_xor, BitVec.getLsbD_ofNat, BitVec.getLsbD_ofNat, BitVec.getLsbD_ofNat, nd_bit]
  have h1 : (-1 : Int32).toBitVec = BitVec.allOnes 32 := by decide
  rw [h1, BitVec.getLsbD_allOnes]
  simp [hi]
theorem p_shl {k : Nat} (hk : k < 31) : mm_shl 1 (nI k) = nI (2 ^ k) := by
  have h : ∀ k : Fin 31, mm_shl 1 (nI k.val) = nI (2 ^ k.val) := by decide +kernel
  exact h ⟨k, hk⟩
theorem p_s31 : ∀ k : Fin 32, ((nI k.val &&& 31).toBitVec.smod 32).toNat = k.val := by decide +kernel
theorem p_shr {a k : Nat} (ha : a < 2 ^ 31) (hk : k < 32) : mm_shr (nI a) (nI k) = nI (a / 2 ^ k) := by
  unfold mm_shr
  exact pk_shrN ha _ k (p_s31 ⟨k, hk⟩)
theorem p_bit1 {a k : Nat} (ha : a < 2 ^ 31) (hk : k < 32) : mm_shr (nI a) (nI k) &&& 1 = nI (if a.testBit k then 1 else 0) := by
  rw [p_shr ha hk, show (1 : Int32) = nI 1 from rfl, p_and, Nat.and_one_is_mod, Nat.testBit_eq_decide_div_mod_eq]
  rcases Nat.mod_two_eq_zero_or_one (a / 2 ^ k) with h | h <;> simp [h]
theorem p_has {a k : Nat} (ha : a < 2 ^ 31) (hk : k < 32) : v_X11_has (nI a) (nI k) = if a.testBit k then 1 else 0 := by
  unfold v_X11_has
  rw [p_bit1 ha hk]
  cases a.testBit k <;> rfl
theorem p_hasM {a k : Nat} (ha : a < 2 ^ 31) (hk : k < 32) : v_X12_has (nI a) (nI k) = if a.testBit k then 1 else 0 := by
  unfold v_X12_has
  rw [p_bit1 ha hk]
  cases a.testBit k <;> rfl
/-- how many of the first 12 -/
def pc (a : Nat) : Nat := ((List.range 12).filter (fun i => a.testBit i)).length
/-- all below 4096, by halves -/
theorem all4096 {P : Nat → Prop} (h : ∀ a b : Fin 64, P (a.val * 64 + b.val)) {x : Nat} (hx : x < 4096) : P x := by
  have h1 := h ⟨x / 64, by omega⟩ ⟨x % 64, by omega⟩
  have e : x / 64 * 64 + x % 64 = x := by omega
  have h1 : P (x / 64 * 64 + x % 64) := h1
  rw [e] at h1
  exact h1
theorem pc_bound {a : Nat} (h : a < 4096) : pc a ≤ 12 := all4096 (P := fun a => pc a ≤ 12) (by decide +kernel) h
theorem p_bitCount (kd : Nat → mm_K) (n : Nat) {a : Nat} (ha : a < 4096) (σ : mm_M) : f_J6_bitCount_0f7a4 kd n (nI a) σ = some (nI (pc a), σ) := by
  have h : ∀ a b : Fin 64, (fun p1 : Int32 => (fun x1 : Int32 => (fun x2 : Int32 => (fun x3 : Int32 => (fun x4 : Int32 => (fun x5 : Int32 => x5 &&& 63) (x4 + ((x4.toUInt32 >>> ((16 : Int32).toUInt32 &&& 31)).toInt32))) (x3 + ((x3.toUInt32 >>> ((8 : Int32).toUInt32 &&& 31)).toInt32))) ((x2 + ((x2.toUInt32 >>> ((4 : Int32).toUInt32 &&& 31)).toInt32)) &&& 252645135)) ((x1 &&& 858993459) + (((x1.toUInt32 >>> ((2 : Int32).toUInt32 &&& 31)).toInt32) &&& 858993459))) (p1 - (((p1.toUInt32 >>> ((1 : Int32).toUInt32 &&& 31)).toInt32) &&& 1431655765))) (nI (a.val * 64 + b.val)) = nI (pc (a.val * 64 + b.val)) := by decide +kernel
  have h1 := all4096 (P := fun a => (fun p1 : Int32 => (fun x1 : Int32 => (fun x2 : Int32 => (fun x3 : Int32 => (fun x4 : Int32 => (fun x5 : Int32 => x5 &&& 63) (x4 + ((x4.toUInt32 >>> ((16 : Int32).toUInt32 &&& 31)).toInt32))) (x3 + ((x3.toUInt32 >>> ((8 : Int32).toUInt32 &&& 31)).toInt32))) ((x2 + ((x2.toUInt32 >>> ((4 : Int32).toUInt32 &&& 31)).toInt32)) &&& 252645135)) ((x1 &&& 858993459) + (((x1.toUInt32 >>> ((2 : Int32).toUInt32 &&& 31)).toInt32) &&& 858993459))) (p1 - (((p1.toUInt32 >>> ((1 : Int32).toUInt32 &&& 31)).toInt32) &&& 1431655765))) (nI a) = nI (pc a)) h ha
  unfold f_J6_bitCount_0f7a4
  simp only [p_bd]
  exact congrArg (fun z => some (z, σ)) h1
theorem pc_step {a : Nat} (h : a < 4096) : a ≠ 0 → pc (a &&& (a - 1)) + 1 = pc a ∧ a &&& (a - 1) < a := all4096 (P := fun a => a ≠ 0 → pc (a &&& (a - 1)) + 1 = pc a ∧ a &&& (a - 1) < a) (by decide +kernel) h
theorem pc_zero : pc 0 = 0 := by decide
theorem p_bitsL (kd : Nat → mm_K) (n : Nat) (k : Int32 → mm_M → Option (Int32 × mm_M)) (τ : mm_M) : ∀ (a g c : Nat), a < 4096 → pc a < g → L_X12_bits_4 kd n k g (nI c) (nI a) τ = k (nI (c + pc a)) τ := by
  intro a
  induction a using Nat.strongRecOn with
  | ind a ih =>
    intro g c ha hg
    obtain ⟨g, rfl⟩ : ∃ g', g = g' + 1 := ⟨g - 1, by omega⟩
    rw [L_X12_bits_4_s]
    by_cases h0 : a = 0
    · subst h0
      rw [if_pos (show nI 0 = 0 from rfl), pc_zero]
      rfl
    · rw [if_neg (nI_ne0 (by omega) (by omega)), p_bd, p_bd]
      obtain ⟨h1, h2⟩ := pc_step ha h0
      have e1 : nI a &&& (nI a - 1) = nI (a &&& (a - 1)) := by
        have e : nI a - 1 = nI (a - 1) := by
          obtain ⟨b, rfl⟩ : ∃ b, a = b + 1 := ⟨a - 1, by omega⟩
          exact nI_pred b
        rw [e, p_and]
      rw [e1, nI_1, ih _ h2 g (c + 1) (by omega) (by omega)]
      rw [show c + 1 + pc (a &&& (a - 1)) = c + pc a by omega]
theorem p_bits (kd : Nat → mm_K) {n : Nat} (hn : 13 ≤ n) {a : Nat} (ha : a < 4096) (τ : mm_M) : f_X12_bits kd n (nI a) τ = some (nI (pc a), τ) := by
  unfold f_X12_bits
  have h := p_bitsL kd n (fun (x6 : Int32) (s7 : mm_M) => (some (x6, s7))) τ a n 0 ha (by have := pc_bound ha; omega)
  rw [show (0 : Int32) = nI 0 from rfl, h, Nat.zero_add]
