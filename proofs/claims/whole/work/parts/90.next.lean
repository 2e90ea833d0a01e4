/-! the reference's tokens -/
section NT
variable {n : Nat} {b : Nat → Nat} {ln : Nat} {τ τ' τ0 : mm_M}
def TPM (b : Nat → Nat) (ln : Nat) (τ : mm_M) : Prop := ln ≤ 300 ∧ (∀ i, i < ln → b i < 256) ∧ mm_I τ 0 6 = nI ln ∧ ∀ i, i < ln → mm_I τ 6 i = nI (b i)
def frS (S : List Nat) (τ τ' : mm_M) : Prop := (∀ a c, mm_R τ' a c = mm_R τ a c) ∧ (∀ k i, k ≠ 0 → mm_I τ' k i = mm_I τ k i) ∧ ∀ i, i ∉ S → mm_I τ' 0 i = mm_I τ 0 i
theorem frS.rfl' (S : List Nat) (τ : mm_M) : frS S τ τ := ⟨fun _ _ => rfl, fun _ _ _ => rfl, fun _ _ => rfl⟩
theorem frS.trans {S : List Nat} {a c d : mm_M} (h1 : frS S a c) (h2 : frS S c d) : frS S a d := ⟨fun x y => (h2.1 x y).trans (h1.1 x y), fun k i q => (h2.2.1 k i q).trans (h1.2.1 k i q), fun i q => (h2.2.2 i q).trans (h1.2.2 i q)⟩
theorem frS.w {S : List Nat} {s : Nat} {v : Int32} (hs : s ∈ S) (h : frS S τ τ') : frS S τ (mm_wI τ' 0 s v) := ⟨h.1, fun k i q => (p_IIn q).trans (h.2.1 k i q), fun i q => (p_IIs (fun c => q (by rw [c]; exact hs))).trans (h.2.2 i q)⟩
theorem frS.wL {S : List Nat} {s : Nat} {v : Int64} (h : frS S τ τ') : frS S τ (mm_wL τ' 0 s v) := h
theorem frS.mono {S S' : List Nat} (h : frS S τ τ') (hs : ∀ i, i ∈ S → i ∈ S') : frS S' τ τ' := ⟨h.1, h.2.1, fun i q => h.2.2 i (fun c => q (hs i c))⟩
theorem frS.tp {S : List Nat} (h : frS S τ τ') (h6 : 6 ∉ S) (t : TPM b ln τ) : TPM b ln τ' := ⟨t.1, t.2.1, (h.2.2 6 h6).trans t.2.2.1, fun i hi => (h.2.1 6 i (by decide)).trans (t.2.2.2 i hi)⟩
theorem frS.rf {S : List Nat} (h : frS S τ τ') (r : ms_Rf τ) : ms_Rf τ' := fun q hq => (h.1 _ _).trans (r q hq)
def byv (b : Nat → Nat) (ln a : Nat) : Int32 := if a < ln then nI (b a) else -1
theorem m_byte (rf : ms_Rf τ) (h : TPM b ln τ) {a : Nat} (ha : a < 1000) : f_X12_byteAt mm_km n 0 (nI a) τ = some (byv b ln a, τ) := by
  have l3 := h.1
  unfold f_X12_byteAt byv
  rw [h.2.2.1]
  by_cases hc : a < ln
  · rw [if_neg (nI_ge hc (by omega)), rm_5 rf, p_ob, lm_6, s_ix (by omega) (by decide), s_cl (by omega), h.2.2.2 a hc, if_pos hc]
  · rw [if_pos (nI_le (by omega) (by omega)), if_neg hc]
theorem m_let (h : TPM b ln τ) {a : Nat} (s : mm_M) : f_X12_isLetterByte mm_km n (byv b ln a) s = some (if a < ln ∧ isL (b a) = true then 1 else 0, s) := by
  have e : ∀ x : Int32, f_X12_isLetterByte mm_km n x s = f_X9_isLetter mm_km n x s := fun x => rfl
  rw [e]
  unfold byv
  by_cases hc : a < ln
  · rw [if_pos hc, x_isLet (h.2.1 a hc)]
    simp [hc]
  · rw [if_neg hc, if_neg (fun q => hc q.1)]
    rfl
theorem m_fig (h : TPM b ln τ) {a : Nat} : v_X12_isFigure (byv b ln a) = if a < ln ∧ isD (b a) = true then 1 else 0 := by
  have e : ∀ x : Int32, v_X12_isFigure x = v_X9_isDigit x := fun x => rfl
  rw [e]
  unfold byv
  by_cases hc : a < ln
  · rw [if_pos hc, v_dig (h.2.1 a hc)]
    simp [hc]
  · rw [if_neg hc, if_neg (fun q => hc q.1)]
    rfl
theorem byv_eq (h : TPM b ln τ) {a : Nat} (c : Nat) (hc : c < 256) : (byv b ln a = nI c) = (a < ln ∧ b a = c) := by
  unfold byv
  by_cases q : a < ln
  · have := h.2.1 a q
    rw [if_pos q, s_eq (by omega) (by omega)]
    simp [q]
  · rw [if_neg q]
    simp only [q, false_and]
    exact s_neg3 (by omega)
theorem m_skip (k5 : mm_M → Option mm_M) : ∀ (m a f : Nat) (τ : mm_M), ln - a = m → a ≤ ln → m < f → ms_Rf τ → TPM b ln τ → mm_I τ 0 9 = nI a → ∃ τ', L_X12_nextToken_0 mm_km n 0 k5 f τ = k5 τ' ∧ frS [9] τ τ' ∧ mm_I τ' 0 9 = nI (rn bl b ln a) := by
  intro m
  induction m with
  | zero =>
    intro a f τ hm ha hf rf tp h9
    obtain ⟨f, rfl⟩ : ∃ f', f = f' + 1 := ⟨f - 1, by omega⟩
    have l3 := tp.1
    have e32 : (byv b ln a = 32) = (a < ln ∧ b a = 32) := byv_eq tp 32 (by decide)
    have e10 : (byv b ln a = 10) = (a < ln ∧ b a = 10) := byv_eq tp 10 (by decide)
    rw [L_X12_nextToken_0_s, h9, m_byte rf tp (by omega), p_cl]
    simp only [p_bd, h9, e32]
    rw [if_neg (by omega), m_byte rf tp (by omega), p_cl]
    simp only [e10]
    rw [if_neg (by omega), rn_s, if_neg (by omega)]
    exact ⟨τ, rfl, frS.rfl' _ _, h9⟩
  | succ m ih =>
    intro a f τ hm ha hf rf tp h9
    obtain ⟨f, rfl⟩ : ∃ f', f = f' + 1 := ⟨f - 1, by omega⟩
    have l3 := tp.1
    have e32 : (byv b ln a = 32) = (a < ln ∧ b a = 32) := byv_eq tp 32 (by decide)
    have e10 : (byv b ln a = 10) = (a < ln ∧ b a = 10) := byv_eq tp 10 (by decide)
    have go : bl (b a) = true → ∃ τ', L_X12_nextToken_0 mm_km n 0 k5 f (mm_wI τ 0 9 (nI a + 1)) = k5 τ' ∧ frS [9] τ τ' ∧ mm_I τ' 0 9 = nI (rn bl b ln a) := by
      intro hb
      have f1 : frS [9] τ (mm_wI τ 0 9 (nI a + 1)) := (frS.rfl' _ _).w (by decide)
      obtain ⟨t, e1, e2, e3⟩ := ih (a + 1) f (mm_wI τ 0 9 (nI a + 1)) (by omega) (by omega) (by omega) (f1.rf rf) (f1.tp (by decide) tp) (p_IIe.trans (nI_1 a))
      exact ⟨t, e1, f1.trans e2, by rw [e3, rn_s (p := a), if_pos ⟨by omega, hb⟩]⟩
    rw [L_X12_nextToken_0_s, h9, m_byte rf tp (by omega), p_cl]
    simp only [p_bd, h9, e32]
    by_cases q1 : a < ln ∧ b a = 32
    · rw [if_pos q1]
      exact go (by rw [q1.2]; decide)
    · rw [if_neg q1, m_byte rf tp (by omega), p_cl]
      simp only [e10, h9]
      by_cases q2 : a < ln ∧ b a = 10
      · rw [if_pos q2]
        exact go (by rw [q2.2]; decide)
      · rw [if_neg q2, rn_s, if_neg]
        · exact ⟨τ, rfl, frS.rfl' _ _, h9⟩
        · rintro ⟨c1, c2⟩
          have : b a = 32 ∨ b a = 10 := of_decide_eq_true c2
          omega
def RN (v r : Nat) : Prop := (v ≤ 99999 ∧ r = v) ∨ (99999 < v ∧ 99999 < r ∧ r < 2000000)
theorem m_dl (k5 : mm_M → Option mm_M) : ∀ (m a v r f : Nat) (τ : mm_M), ln - a = m → a ≤ ln → m < f → ms_Rf τ → TPM b ln τ → mm_I τ 0 9 = nI a → mm_I τ 0 12 = nI r → RN v r → ∃ τ' r', L_X12_nextToken_85 mm_km n 0 k5 f τ = k5 τ' ∧ frS [9, 12] τ τ' ∧ mm_I τ' 0 9 = nI (rn isD b ln a) ∧ mm_I τ' 0 12 = nI r' ∧ RN (dv b ln a v) r' := by
  intro m
  induction m with
  | zero =>
    intro a v r f τ hm ha hf rf tp h9 h12 hr
    obtain ⟨f, rfl⟩ : ∃ f', f = f' + 1 := ⟨f - 1, by omega⟩
    have l3 := tp.1
    rw [L_X12_nextToken_85_s, h9, m_byte rf tp (by omega), p_cl, m_fig tp, if_neg (show ¬ (a < ln ∧ isD (b a) = true) by omega), if_pos rfl, rn_s, if_neg (by omega), dv_s, if_neg (by omega)]
    exact ⟨τ, r, rfl, frS.rfl' _ _, h9, h12, hr⟩
  | succ m ih =>
    intro a v r f τ hm ha hf rf tp h9 h12 hr
    obtain ⟨f, rfl⟩ : ∃ f', f = f' + 1 := ⟨f - 1, by omega⟩
    have l3 := tp.1
    have r2 : r < 2000000 := by
      rcases hr with h | h <;> omega
    rw [L_X12_nextToken_85_s, h9, m_byte rf tp (by omega), p_cl, m_fig tp]
    by_cases hc : a < ln ∧ isD (b a) = true
    · have hd : 48 ≤ b a ∧ b a ≤ 57 := of_decide_eq_true hc.2
      rw [if_pos hc, if_neg n10]
      simp only [p_bd, h9, h12]
      have fin1 : ∀ r1, RN (10 * v + (b a - 48)) r1 → ∃ τ' r', L_X12_nextToken_85 mm_km n 0 k5 f (mm_wI (mm_wI τ 0 12 (nI r1)) 0 9 (mm_I (mm_wI τ 0 12 (nI r1)) 0 9 + 1)) = k5 τ' ∧ frS [9, 12] τ τ' ∧ mm_I τ' 0 9 = nI (rn isD b ln a) ∧ mm_I τ' 0 12 = nI r' ∧ RN (dv b ln a v) r' := by
        intro r1 hr1
        rw [p_IIs (by decide), h9, nI_1]
        have f1 : frS [9, 12] τ (mm_wI (mm_wI τ 0 12 (nI r1)) 0 9 (nI (a + 1))) := ((frS.rfl' _ _).w (by decide)).w (by decide)
        obtain ⟨t, r', e1, e2, e3, e4, e5⟩ := ih (a + 1) _ r1 f _ (by omega) (by omega) (by omega) (f1.rf rf) (f1.tp (by decide) tp) p_IIe ((p_IIs (by decide)).trans p_IIe) hr1
        exact ⟨t, r', e1, f1.trans e2, by rw [e3, rn_s (p := a), if_pos hc], e4, by rw [dv_s (p := a), if_pos hc]; exact e5⟩
      simp only [show (nI r ≤ 99999) = (r ≤ 99999) from s_le (b := 99999) (by omega) (by decide)]
      by_cases h5 : r ≤ 99999
      · rw [if_pos h5, m_byte rf tp (by omega), p_cl]
        have e : 10 * nI r + byv b ln a - 48 = nI (10 * r + b a - 48) := by
          unfold byv
          rw [if_pos hc.1, show (10 : Int32) = nI 10 from rfl, pk_mul, nI_add, show (48 : Int32) = nI 48 from rfl, pk_sub (by omega)]
        rw [e]
        refine fin1 (10 * r + b a - 48) ?_
        rcases hr with ⟨q1, q2⟩ | ⟨q1, q2, q3⟩
        · by_cases q4 : 10 * v + (b a - 48) ≤ 99999
          · exact Or.inl ⟨q4, by omega⟩
          · exact Or.inr ⟨by omega, by omega, by omega⟩
        · omega
      · rw [if_neg h5]
        refine fin1 r ?_
        rcases hr with ⟨q1, q2⟩ | ⟨q1, q2, q3⟩
        · omega
        · exact Or.inr ⟨by omega, q2, q3⟩
    · rw [if_neg hc, if_pos rfl, rn_s, if_neg hc, dv_s, if_neg hc]
      exact ⟨τ, r, rfl, frS.rfl' _ _, h9, h12, hr⟩
theorem lN_bv (a : Nat) : (lN a).toBitVec = BitVec.ofNat 64 a := rfl
theorem shl8 {a : Nat} (h : a < 72057594037927936) : mm_shlL (lN a) 8 = lN (a * 256) := by
  unfold mm_shlL
  rw [show ((8 : Int32).toInt64 &&& 63) = (8 : Int64) from by decide]
  apply Int64.toBitVec_inj.mp
  rw [Int64.toBitVec_shiftLeft, lN_bv, lN_bv, show ((8 : Int64).toBitVec.smod 64) = 8#64 from by decide]
  apply BitVec.eq_of_toNat_eq
  rw [BitVec.shiftLeft_eq', BitVec.toNat_shiftLeft, BitVec.toNat_ofNat, BitVec.toNat_ofNat, BitVec.toNat_ofNat, Nat.shiftLeft_eq, show 2 ^ (8 % 2 ^ 64) = 256 from by decide, Nat.mod_eq_of_lt (show a < 2 ^ 64 by omega)]
theorem or8 {a c : Nat} (hc : c < 256) : lN (a * 256) ||| (nI c).toInt64 = lN (a * 256 + c) := by
  rw [nI_l (by omega)]
  apply Int64.toBitVec_inj.mp
  rw [Int64.toBitVec_or, lN_bv, lN_bv, lN_bv, ← BitVec.ofNat_or]
  congr 1
  have := Nat.two_pow_add_eq_or_of_lt (i := 8) (show c < 2 ^ 8 from hc) a
  rw [show a * 256 = 2 ^ 8 * a by omega]
  exact this.symm
theorem shr48 {a : Nat} (h : a < 9223372036854775808) : mm_shrL (lN a) 48 = lN (a / 281474976710656) := by
  unfold mm_shrL
  rw [show ((48 : Int32).toInt64 &&& 63) = (48 : Int64) from by decide]
  apply Int64.toInt_inj.mp
  have e : (lN a >>> (48 : Int64)).toInt = ((lN a).toBitVec.sshiftRight' ((48 : Int64).toBitVec.smod 64)).toInt := rfl
  have t1 : (lN a).toInt = (a : Int) := by
    rw [← iL_nat, iL_t (by omega) (by omega)]
  have t2 : (lN (a / 281474976710656)).toInt = ((a / 281474976710656 : Nat) : Int) := by
    rw [← iL_nat, iL_t (by omega) (by omega)]
  rw [e, BitVec.toInt_sshiftRight', show ((48 : Int64).toBitVec.smod 64).toNat = 48 from by decide, Int.shiftRight_eq_div_pow, t2]
  have t3 : (lN a).toBitVec.toInt = (a : Int) := t1
  rw [t3]
  rfl
theorem m_wl (k5 : mm_M → Option mm_M) : ∀ (m a x f : Nat) (τ : mm_M), ln - a = m → a ≤ ln → m < f → ms_Rf τ → TPM b ln τ → mm_I τ 0 9 = nI a → mm_L τ 0 13 = lN x → x < 2305843009213693952 → ∃ τ', L_X12_nextToken_168 mm_km n 0 k5 f τ = k5 τ' ∧ frS [9] τ τ' ∧ mm_I τ' 0 9 = nI (rn isL b ln a) ∧ mm_L τ' 0 13 = lN ((wdL b (rn isL b ln a - a) a).foldl (fun a c => pst c a) x) := by
  intro m
  induction m with
  | zero =>
    intro a x f τ hm ha hf rf tp h9 h13 hx
    obtain ⟨f, rfl⟩ : ∃ f', f = f' + 1 := ⟨f - 1, by omega⟩
    have l3 := tp.1
    rw [L_X12_nextToken_168_s, h9, m_byte rf tp (by omega), p_cl, m_let tp, p_cl, if_neg (show ¬ (a < ln ∧ isL (b a) = true) by omega), if_pos rfl, rn_s, if_neg (by omega), Nat.sub_self]
    exact ⟨τ, rfl, frS.rfl' _ _, h9, h13⟩
  | succ m ih =>
    intro a x f τ hm ha hf rf tp h9 h13 hx
    obtain ⟨f, rfl⟩ : ∃ f', f = f' + 1 := ⟨f - 1, by omega⟩
    have l3 := tp.1
    rw [L_X12_nextToken_168_s, h9, m_byte rf tp (by omega), p_cl, m_let tp, p_cl]
    by_cases hc : a < ln ∧ isL (b a) = true
    · have hb := tp.2.1 a hc.1
      rw [if_pos hc, if_neg n10]
      simp only [p_bd, h9, h13]
      have ra := rn_ge (P := isL) (b := b) (ln := ln) (p := a + 1) (by omega)
      have fin1 : ∃ τ', L_X12_nextToken_168 mm_km n 0 k5 f (mm_wI (mm_wL τ 0 13 (lN (pst (b a) x))) 0 9 (mm_I (mm_wL τ 0 13 (lN (pst (b a) x))) 0 9 + 1)) = k5 τ' ∧ frS [9] τ τ' ∧ mm_I τ' 0 9 = nI (rn isL b ln a) ∧ mm_L τ' 0 13 = lN ((wdL b (rn isL b ln a - a) a).foldl (fun a c => pst c a) x) := by
        rw [p_IL, h9, nI_1]
        have f1 : frS [9] τ (mm_wI (mm_wL τ 0 13 (lN (pst (b a) x))) 0 9 (nI (a + 1))) := frS.w (by decide) (frS.wL (frS.rfl' _ _))
        have hp : pst (b a) x < 2305843009213693952 := by
          unfold pst
          split <;> omega
        obtain ⟨t, e1, e2, e3, e4⟩ := ih (a + 1) (pst (b a) x) f _ (by omega) (by omega) (by omega) (f1.rf rf) (f1.tp (by decide) tp) p_IIe (by rw [p_LI, p_LL, if_pos ⟨rfl, rfl⟩]) hp
        have e5 : rn isL b ln a = rn isL b ln (a + 1) := by rw [rn_s (p := a), if_pos hc]
        refine ⟨t, e1, f1.trans e2, by rw [e3, e5], ?_⟩
        rw [e4, e5, show rn isL b ln (a + 1) - a = (rn isL b ln (a + 1) - (a + 1)) + 1 by omega]
        rfl
      rw [shr48 (by omega)]
      simp only [cmpz (show x / 281474976710656 < 9223372036854775808 by omega)]
      by_cases h0 : x / 281474976710656 = 0
      · rw [if_pos h0, m_byte rf tp (by omega), p_cl]
        have e : mm_shlL (lN x) 8 ||| (byv b ln a).toInt64 = lN (pst (b a) x) := by
          unfold byv pst
          rw [if_pos hc.1, if_pos h0, shl8 (by omega), or8 hb]
        rw [e]
        exact fin1
      · rw [if_neg h0]
        have e : (1152921504606846976 : Int64) = lN (pst (b a) x) := by
          unfold pst
          rw [if_neg h0]
          rfl
        rw [e]
        exact fin1
    · rw [if_neg hc, if_pos rfl, rn_s, if_neg hc, Nat.sub_self]
      exact ⟨τ, rfl, frS.rfl' _ _, h9, h13⟩
def isSg (c : Nat) : Bool := decide (c = 35 ∨ c = 40 ∨ c = 41 ∨ c = 42 ∨ c = 43 ∨ c = 45 ∨ c = 47 ∨ c = 58 ∨ c = 59 ∨ c = 60 ∨ c = 61 ∨ c = 62)
theorem v_sig0 : ∀ c : Fin 256, v_X12_isSign (nI c.val) = if isSg c.val = true then 1 else 0 := by decide +kernel
def rtk (b : Nat → Nat) (ln p : Nat) : Nat := if p < ln then (if isD (b p) = true then 1 else if isL (b p) = true then 2 else if two b ln p = true then (if b p = 60 then 4 else 5) else if isSg (b p) = true then b p else 3) else 0
def TRp (b : Nat → Nat) (ln p : Nat) (τ : mm_M) : Prop := mm_I τ 0 10 = nI p ∧ mm_I τ 0 9 = nI (tE b ln p) ∧ mm_I τ 0 11 = nI (rtk b ln p) ∧ (p < ln → isL (b p) = true → mm_L τ 0 13 = lN (pkw (wds b ln p))) ∧ (p < ln → isD (b p) = true → ∃ r, mm_I τ 0 12 = nI r ∧ RN (dv b ln p 0) r)
theorem LD {c : Nat} (h : isD c = true) : ¬ isL c = true := by
  have h : 48 ≤ c ∧ c ≤ 57 := of_decide_eq_true h
  intro q
  have q : (97 ≤ c ∧ c ≤ 122) ∨ (65 ≤ c ∧ c ≤ 90) := of_decide_eq_true q
  omega
theorem m_nx (rf : ms_Rf τ) (tp : TPM b ln τ) (hn : 8000 ≤ n) {a : Nat} (ha : a ≤ ln) (h9 : mm_I τ 0 9 = nI a) : ∃ τ', f_X12_nextToken mm_km n 0 τ = some τ' ∧ frS [9, 10, 11, 12] τ τ' ∧ TRp b ln (rn bl b ln a) τ' := by
  have l3 := tp.1
  unfold f_X12_nextToken
  obtain ⟨t1, e1, f1, g1⟩ := m_skip (n := n) (fun (s4 : mm_M) => mm_bd (mm_wI s4 0 10 (mm_I s4 0 9)) (fun s6 => mm_cl (f_X12_byteAt mm_km n 0 (mm_I s6 0 9) s6) (fun r8 s7 => (if (0 : Int32) ≤ r8 then (if (v_X12_isFigure r8) = 0 then mm_cl (f_X12_isLetterByte mm_km n r8 s7) (fun r10 s9 => (if r10 = 0 then mm_bd (fun (x11 : Int32) (s12 : mm_M) => mm_bd (mm_wI s12 0 11 x11) (fun s14 => mm_bd (mm_wI s14 0 9 ((mm_I s14 0 9) + 1)) (fun s15 => mm_bd (fun (s16 : mm_M) => mm_cl (f_X12_byteAt mm_km n 0 (mm_I s16 0 9) s16) (fun r19 s18 => (if r19 = 61 then mm_bd (fun (x20 : Int32) (s21 : mm_M) => mm_bd (mm_wI s21 0 11 x20) (fun s23 => mm_bd (mm_wI s23 0 9 ((mm_I s23 0 9) + 1)) (fun s24 => (some s24)))) (fun (k22 : Int32 → mm_M → Option (mm_M)) => (if r8 = 60 then (k22 4 s18) else (k22 5 s18))) else (some s18)))) (fun (k17 : mm_M → Option (mm_M)) => (if r8 = 60 then (k17 s15) else (if r8 = 62 then (k17 s15) else (some s15))))))) (fun (k13 : Int32 → mm_M → Option (mm_M)) => (if (v_X12_isSign r8) = 0 then (k13 3 s9) else (k13 r8 s9))) else mm_bd (mm_wI s9 0 11 2) (fun s25 => mm_bd (mm_wL s25 0 13 0) (fun s26 => (L_X12_nextToken_168 mm_km n 0 (fun (s30 : mm_M) => (some s30)) n s26))))) else mm_bd (mm_wI s7 0 11 1) (fun s43 => mm_bd (mm_wI s43 0 12 0) (fun s44 => (L_X12_nextToken_85 mm_km n 0 (fun (s48 : mm_M) => (some s48)) n s44)))) else mm_bd (mm_wI s7 0 11 0) (fun s59 => (some s59)))))) (ln - a) a n τ rfl ha (by omega) rf tp h9
  rw [e1]
  have hp := rn_le (P := bl) (b := b) ha
  generalize rn bl b ln a = p at g1 hp
  simp only [p_bd]
  have f2 : frS [9, 10] τ (mm_wI t1 0 10 (nI p)) := frS.w (by decide) (f1.mono (by simp))
  rw [g1, p_IIs (by decide), g1, m_byte (f2.rf rf) (f2.tp (by decide) tp) (by omega), p_cl]
  have g9 : mm_I (mm_wI t1 0 10 (nI p)) 0 9 = nI p := (p_IIs (by decide)).trans g1
  have g10 : mm_I (mm_wI t1 0 10 (nI p)) 0 10 = nI p := p_IIe
  generalize mm_wI t1 0 10 (nI p) = t2 at f2 g9 g10
  have tp2 := f2.tp (by decide) tp
  have rf2 := f2.rf rf
  have f3 : frS [9, 10, 11, 12] τ t2 := f2.mono (by simp)
  by_cases hc : p < ln
  · have hb := tp.2.1 p hc
    have eb : byv b ln p = nI (b p) := if_pos hc
    rw [if_pos (show (0 : Int32) ≤ byv b ln p by rw [eb]; exact nI_pos' (by omega))]
    have eE : tE b ln p = (if isL (b p) = true then rn isL b ln p else if isD (b p) = true then rn isD b ln p else if two b ln p = true then p + 2 else p + 1) := by
      unfold tE
      rw [if_pos hc]
    have eR : rtk b ln p = (if isD (b p) = true then 1 else if isL (b p) = true then 2 else if two b ln p = true then (if b p = 60 then 4 else 5) else if isSg (b p) = true then b p else 3) := by
      unfold rtk
      rw [if_pos hc]
    by_cases hD : isD (b p) = true
    · have hL := LD hD
      rw [show v_X12_isFigure (byv b ln p) = 1 from by rw [m_fig tp, if_pos ⟨hc, hD⟩], if_neg n10]
      have f4 : frS [9, 10, 11, 12] τ (mm_wI (mm_wI t2 0 11 1) 0 12 0) := (f3.w (by decide)).w (by decide)
      obtain ⟨t3, r, u1, u2, u3, u4, u5⟩ := m_dl (n := n) (fun s48 => some s48) (ln - p) p 0 0 n (mm_wI (mm_wI t2 0 11 1) 0 12 0) rfl hp (by omega) (f4.rf rf) (f4.tp (by decide) tp) (by rw [p_IIs (by decide), p_IIs (by decide), g9]) p_IIe (Or.inl ⟨by omega, rfl⟩)
      rw [u1]
      refine ⟨t3, rfl, f4.trans (u2.mono (by simp)), ?_, ?_, ?_, fun _ q => absurd q hL, fun _ _ => ⟨r, u4, u5⟩⟩
      · rw [u2.2.2 10 (by decide), p_IIs (by decide), p_IIs (by decide), g10]
      · rw [u3, eE, if_neg hL, if_pos hD]
      · rw [u2.2.2 11 (by decide), p_IIs (by decide), p_IIe, eR, if_pos hD]
        rfl
    · rw [show v_X12_isFigure (byv b ln p) = 0 from by rw [m_fig tp, if_neg (fun q => hD q.2)], if_pos rfl]
      by_cases hL : isL (b p) = true
      · rw [show f_X12_isLetterByte mm_km n (byv b ln p) t2 = some (1, t2) from by rw [m_let tp, if_pos ⟨hc, hL⟩], p_cl, if_neg n10]
        have f4 : frS [9, 10, 11, 12] τ (mm_wL (mm_wI t2 0 11 2) 0 13 0) := (f3.w (by decide)).wL
        obtain ⟨t3, u1, u2, u3, u4⟩ := m_wl (n := n) (fun s30 => some s30) (ln - p) p 0 n (mm_wL (mm_wI t2 0 11 2) 0 13 0) rfl hp (by omega) (f4.rf rf) (f4.tp (by decide) tp) (by rw [p_IL, p_IIs (by decide), g9]) (by rw [p_LL, if_pos ⟨rfl, rfl⟩]; rfl) (by decide)
        rw [u1]
        refine ⟨t3, rfl, f4.trans (u2.mono (by simp)), ?_, ?_, ?_, fun _ _ => u4, fun _ q => absurd q hD⟩
        · rw [u2.2.2 10 (by decide), p_IL, p_IIs (by decide), g10]
        · rw [u3, eE, if_pos hL]
        · rw [u2.2.2 11 (by decide), p_IL, p_IIe, eR, if_neg hD, if_pos hL]
          rfl
      · rw [show f_X12_isLetterByte mm_km n (byv b ln p) t2 = some (0, t2) from by rw [m_let tp, if_neg (fun q => hL q.2)], p_cl, if_pos rfl]
        have es : v_X12_isSign (byv b ln p) = if isSg (b p) = true then 1 else 0 := by
          rw [eb]
          exact v_sig0 ⟨b p, hb⟩
        have e60 : (byv b ln p = 60) = (b p = 60) := by
          rw [eb]
          exact s_eq (b := 60) (by omega) (by decide)
        have e62 : (byv b ln p = 62) = (b p = 62) := by
          rw [eb]
          exact s_eq (b := 62) (by omega) (by decide)
        have tw : (two b ln p = true) = ((b p = 60 ∨ b p = 62) ∧ p + 1 < ln ∧ b (p + 1) = 61) := by simp [two]
        simp only [es, e60, e62]
        have main : ∀ x : Nat, (if isSg (b p) = true then b p else 3) = x → ∃ τ', (if b p = 60 then mm_cl (f_X12_byteAt mm_km n 0 (mm_I (mm_wI (mm_wI t2 0 11 (nI x)) 0 9 (mm_I (mm_wI t2 0 11 (nI x)) 0 9 + 1)) 0 9) (mm_wI (mm_wI t2 0 11 (nI x)) 0 9 (mm_I (mm_wI t2 0 11 (nI x)) 0 9 + 1))) (fun r19 s18 => (if r19 = 61 then (if b p = 60 then (some (mm_wI (mm_wI s18 0 11 4) 0 9 ((mm_I (mm_wI s18 0 11 4) 0 9) + 1))) else (some (mm_wI (mm_wI s18 0 11 5) 0 9 ((mm_I (mm_wI s18 0 11 5) 0 9) + 1)))) else (some s18))) else (if b p = 62 then mm_cl (f_X12_byteAt mm_km n 0 (mm_I (mm_wI (mm_wI t2 0 11 (nI x)) 0 9 (mm_I (mm_wI t2 0 11 (nI x)) 0 9 + 1)) 0 9) (mm_wI (mm_wI t2 0 11 (nI x)) 0 9 (mm_I (mm_wI t2 0 11 (nI x)) 0 9 + 1))) (fun r19 s18 => (if r19 = 61 then (if b p = 60 then (some (mm_wI (mm_wI s18 0 11 4) 0 9 ((mm_I (mm_wI s18 0 11 4) 0 9) + 1))) else (some (mm_wI (mm_wI s18 0 11 5) 0 9 ((mm_I (mm_wI s18 0 11 5) 0 9) + 1)))) else (some s18))) else some (mm_wI (mm_wI t2 0 11 (nI x)) 0 9 (mm_I (mm_wI t2 0 11 (nI x)) 0 9 + 1)))) = some τ' ∧ frS [9, 10, 11, 12] τ τ' ∧ TRp b ln p τ' := by
          intro x hx
          have q0 : mm_I (mm_wI t2 0 11 (nI x)) 0 9 = nI p := by rw [p_IIs (by decide), g9]
          rw [q0, nI_1, p_IIe]
          have f4 : frS [9, 10, 11, 12] τ (mm_wI (mm_wI t2 0 11 (nI x)) 0 9 (nI (p + 1))) := (f3.w (by decide)).w (by decide)
          have k10 : mm_I (mm_wI (mm_wI t2 0 11 (nI x)) 0 9 (nI (p + 1))) 0 10 = nI p := by rw [p_IIs (by decide), p_IIs (by decide), g10]
          have k11 : mm_I (mm_wI (mm_wI t2 0 11 (nI x)) 0 9 (nI (p + 1))) 0 11 = nI x := by rw [p_IIs (by decide), p_IIe]
          have k9 : mm_I (mm_wI (mm_wI t2 0 11 (nI x)) 0 9 (nI (p + 1))) 0 9 = nI (p + 1) := p_IIe
          generalize mm_wI (mm_wI t2 0 11 (nI x)) 0 9 (nI (p + 1)) = t3 at f4 k10 k11 k9
          have e61 : (byv b ln (p + 1) = 61) = (p + 1 < ln ∧ b (p + 1) = 61) := byv_eq tp 61 (by decide)
          have plain : two b ln p = false → frS [9, 10, 11, 12] τ t3 ∧ TRp b ln p t3 := by
            intro ht
            refine ⟨f4, k10, ?_, ?_, fun _ q => absurd q hL, fun _ q => absurd q hD⟩
            · rw [k9, eE, if_neg hL, if_neg hD, if_neg (by rw [ht]; decide)]
            · rw [k11, eR, if_neg hD, if_neg hL, if_neg (by rw [ht]; decide), hx]
          have dbl : ∀ y : Nat, two b ln p = true → (if b p = 60 then 4 else 5) = y → ∃ τ', some (mm_wI (mm_wI t3 0 11 (nI y)) 0 9 (mm_I (mm_wI t3 0 11 (nI y)) 0 9 + 1)) = some τ' ∧ frS [9, 10, 11, 12] τ τ' ∧ TRp b ln p τ' := by
            intro y ht hy
            rw [p_IIs (by decide), k9, nI_1]
            refine ⟨_, rfl, (f4.w (by decide)).w (by decide), ?_, ?_, ?_, fun _ q => absurd q hL, fun _ q => absurd q hD⟩
            · rw [p_IIs (by decide), p_IIs (by decide), k10]
            · rw [p_IIe, eE, if_neg hL, if_neg hD, if_pos ht]
            · rw [p_IIs (by decide), p_IIe, eR, if_neg hD, if_neg hL, if_pos ht, hy]
          have tf : ¬ ((b p = 60 ∨ b p = 62) ∧ p + 1 < ln ∧ b (p + 1) = 61) → two b ln p = false := by
            intro q
            cases hh : two b ln p with
            | false => rfl
            | true => rw [tw] at hh; exact absurd hh q
          rw [m_byte (f4.rf rf) (f4.tp (by decide) tp) (by omega), p_cl]
          simp only [e61]
          by_cases q1 : b p = 60
          · rw [if_pos q1]
            by_cases q3 : p + 1 < ln ∧ b (p + 1) = 61
            · rw [if_pos q3, if_pos q1]
              exact dbl 4 (by rw [tw]; exact ⟨Or.inl q1, q3⟩) (if_pos q1)
            · rw [if_neg q3]
              exact ⟨t3, rfl, plain (tf (fun q => q3 q.2))⟩
          · rw [if_neg q1]
            by_cases q2 : b p = 62
            · rw [if_pos q2]
              by_cases q3 : p + 1 < ln ∧ b (p + 1) = 61
              · rw [if_pos q3, if_neg q1]
                exact dbl 5 (by rw [tw]; exact ⟨Or.inr q2, q3⟩) (if_neg q1)
              · rw [if_neg q3]
                exact ⟨t3, rfl, plain (tf (fun q => q3 q.2))⟩
            · rw [if_neg q2]
              exact ⟨t3, rfl, plain (tf (fun q => by omega))⟩
        by_cases hs : isSg (b p) = true
        · rw [if_pos hs, if_neg n10, eb]
          exact main (b p) (if_pos hs)
        · rw [if_neg hs, if_pos rfl]
          exact main 3 (if_neg hs)
  · have eb : byv b ln p = -1 := if_neg hc
    have hpl : p = ln := by omega
    rw [eb, if_neg (by decide)]
    refine ⟨_, rfl, f3.w (by decide), ?_, ?_, ?_, fun q => absurd q hc, fun q => absurd q hc⟩
    · rw [p_IIs (by decide), g10]
    · rw [p_IIs (by decide), g9, hpl, tE_ln]
    · rw [p_IIe]
      unfold rtk
      rw [if_neg hc]
      rfl
end NT
