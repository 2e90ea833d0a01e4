/-! the class's reader: its small parts -/
def sR (c : Nat) (σ : mm_M) (k : Nat) : Nat := (mm_I σ (c + 4) k).toNatClampNeg
def vR (c : Nat) (σ : mm_M) (k : Nat) : Nat := (mm_I σ (c + 5) k).toNatClampNeg
def RW (c lo hi : Nat) (σ : mm_M) : Prop := ∀ k, lo ≤ k → k < hi → mm_I σ (c + 4) k = nI (sR c σ k) ∧ mm_I σ (c + 5) k = nI (vR c σ k) ∧ sR c σ k < 100 ∧ vR c σ k < 10000
def XSt (b : Nat → Nat) (ln N c : Nat) (te : Bool) (i o sz : Nat) (σ : mm_M) : Prop := xs_Rf σ ∧ mm_R σ 556 1 = some c ∧ TKX b ln N σ ∧ (mm_I σ 556 4 = 16) = (te = true) ∧ mm_I σ 556 2 = nI i ∧ mm_I σ 556 3 = nI o ∧ mm_I σ c 6 = nI sz
/-- what may change: the reader's fields of S, the text's size, its steps from sz on -/
def frC (S : List Nat) (c sz : Nat) (σ σ' : mm_M) : Prop := (∀ x y, mm_R σ' x y = mm_R σ x y) ∧ (∀ k i, k ≠ 556 → k ≠ c → k ≠ c + 4 → k ≠ c + 5 → mm_I σ' k i = mm_I σ k i) ∧ (∀ i, i ∉ S → mm_I σ' 556 i = mm_I σ 556 i) ∧ (∀ i, i ≠ 6 → mm_I σ' c i = mm_I σ c i) ∧ ∀ i, i < sz → mm_I σ' (c + 4) i = mm_I σ (c + 4) i ∧ mm_I σ' (c + 5) i = mm_I σ (c + 5) i
theorem frC.rfl' (S : List Nat) (c sz : Nat) (σ : mm_M) : frC S c sz σ σ := ⟨fun _ _ => rfl, fun _ _ _ _ _ _ => rfl, fun _ _ => rfl, fun _ _ => rfl, fun _ _ => ⟨rfl, rfl⟩⟩
theorem frC.trans {S : List Nat} {c sz sz' : Nat} {σ σ1 σ2 : mm_M} (h1 : frC S c sz σ σ1) (h2 : frC S c sz' σ1 σ2) (hs : sz ≤ sz') : frC S c sz σ σ2 := ⟨fun x y => (h2.1 x y).trans (h1.1 x y), fun k i q1 q2 q3 q4 => (h2.2.1 k i q1 q2 q3 q4).trans (h1.2.1 k i q1 q2 q3 q4), fun i q => (h2.2.2.1 i q).trans (h1.2.2.1 i q), fun i q => (h2.2.2.2.1 i q).trans (h1.2.2.2.1 i q), fun i q => ⟨((h2.2.2.2.2 i (by omega)).1).trans (h1.2.2.2.2 i q).1, ((h2.2.2.2.2 i (by omega)).2).trans (h1.2.2.2.2 i q).2⟩⟩
theorem frC.mono {S S' : List Nat} {c sz : Nat} {σ σ' : mm_M} (h : frC S c sz σ σ') (hs : ∀ i, i ∈ S → i ∈ S') : frC S' c sz σ σ' := ⟨h.1, h.2.1, fun i q => h.2.2.1 i (fun x => q (hs i x)), h.2.2.2⟩
/-- the text's own cells -/
def CT (c : Nat) : Prop := c = 532 ∨ c = 538 ∨ c = 544 ∨ c = 550
theorem CT.b {c : Nat} (h : CT c) : 532 ≤ c ∧ c + 5 < 556 := by
  unfold CT at h
  omega
theorem CT.r {c : Nat} (h : CT c) {σ : mm_M} (rf : xs_Rf σ) : mm_R σ c 0 = some (c + 1) ∧ mm_R σ c 1 = some (c + 2) ∧ mm_R σ c 2 = some (c + 3) ∧ mm_R σ c 4 = some (c + 4) ∧ mm_R σ c 5 = some (c + 5) := by
  rcases h with rfl | rfl | rfl | rfl
  · exact ⟨rx_532_0 rf, rx_532_1 rf, rx_532_2 rf, rx_532_4 rf, rx_532_5 rf⟩
  · exact ⟨rx_538_0 rf, rx_538_1 rf, rx_538_2 rf, rx_538_4 rf, rx_538_5 rf⟩
  · exact ⟨rx_544_0 rf, rx_544_1 rf, rx_544_2 rf, rx_544_4 rf, rx_544_5 rf⟩
  · exact ⟨rx_550_0 rf, rx_550_1 rf, rx_550_2 rf, rx_550_4 rf, rx_550_5 rf⟩
theorem CT.l {c : Nat} (h : CT c) : mm_ln (mm_kx (c + 1)) = 24 ∧ mm_ln (mm_kx (c + 2)) = 24 ∧ mm_ln (mm_kx (c + 3)) = 24 ∧ mm_ln (mm_kx (c + 4)) = 300 ∧ mm_ln (mm_kx (c + 5)) = 300 := by
  rcases h with rfl | rfl | rfl | rfl
  · exact ⟨lx_533, lx_534, lx_535, lx_536, lx_537⟩
  · exact ⟨lx_539, lx_540, lx_541, lx_542, lx_543⟩
  · exact ⟨lx_545, lx_546, lx_547, lx_548, lx_549⟩
  · exact ⟨lx_551, lx_552, lx_553, lx_554, lx_555⟩
section RD
variable {n : Nat} {b : Nat → Nat} {ln N c : Nat} {te : Bool} {i o sz : Nat} {σ σ' : mm_M}
theorem TKX.go (h : TKX b ln N σ) (e : ∀ k i, 557 ≤ k → k ≤ 560 → mm_I σ' k i = mm_I σ k i) : TKX b ln N σ' := ⟨(e _ _ (by omega) (by omega)).trans h.1, fun j hj => by
  rw [e _ _ (by omega) (by omega), e _ _ (by omega) (by omega), e _ _ (by omega) (by omega)]
  exact h.2 j hj⟩
/-- a field of the reader is written -/
theorem XSt.w (h : XSt b ln N c te i o sz σ) (hc : CT c) {s : Nat} {v : Int32} {i' o' : Nat} (hs : s ≠ 4) (e2 : mm_I (mm_wI σ 556 s v) 556 2 = nI i') (e3 : mm_I (mm_wI σ 556 s v) 556 3 = nI o') : XSt b ln N c te i' o' sz (mm_wI σ 556 s v) := by
  obtain ⟨h1, h2, h3, h4, h5, h6, h7⟩ := h
  have := hc.b
  exact ⟨h1, h2, h3.go (fun k i q1 q2 => p_IIn (by omega)), by rw [p_IIs (fun q => hs q.symm)]; exact h4, e2, e3, (p_IIn (by omega)).trans h7⟩
theorem frC.w (S : List Nat) (hc : CT c) {s : Nat} {v : Int32} (hs : s ∈ S) : frC S c sz σ (mm_wI σ 556 s v) := by
  have := hc.b
  exact ⟨fun _ _ => rfl, fun k i q1 _ _ _ => p_IIn q1, fun i q => p_IIs (fun x => q (by rw [x]; exact hs)), fun i q => p_IIn (by omega), fun i q => ⟨p_IIn (by omega), p_IIn (by omega)⟩⟩
theorem XSt.kind (h : XSt b ln N c te i o sz σ) (hN : N ≤ 300) (hi : i ≤ N) : f_X7_kind mm_kx n 556 σ = some (nI (kK b ln i), σ) := by
  obtain ⟨h1, h2, h3, h4, h5, h6, h7⟩ := h
  unfold f_X7_kind f_X9_kindAt
  rw [rx_556_0 h1, p_ob, h5, if_neg (nI_pos (by omega)), h3.1, if_neg (nI_ge (by omega) (by omega)), if_neg (show ¬ (300 : Int32) < nI i from nI_nlt (a := 300) (by omega) (by decide)), rx_557_0 h1, p_ob, lx_558, s_ix (by omega) (by decide), s_cl (by omega), (h3.2 i hi).1, p_cl]
  rfl
/-- a fault is told -/
theorem XSt.fail (h : XSt b ln N c te i o sz σ) (hN : N ≤ 300) (hi : i ≤ N) (hc : CT c) (f : Nat) : ∃ σ', f_X7_fail mm_kx n 556 (nI f) σ = some (0, σ') ∧ frC [2, 3, 5, 7, 8] c sz σ σ' ∧ mm_I σ' 556 7 = nI f ∧ mm_I σ' 556 8 = nI (tsq b ln i) := by
  obtain ⟨h1, h2, h3, h4, h5, h6, h7⟩ := h
  unfold f_X7_fail f_X9_placeAt
  rw [p_bd]
  have h1' : xs_Rf (mm_wI σ 556 7 (nI f)) := h1
  rw [rx_556_0 h1', p_ob, p_IIs (by decide), h5, if_neg (nI_pos (by omega)), p_IIn (by decide), h3.1, if_neg (nI_ge (by omega) (by omega)), if_neg (show ¬ (300 : Int32) < nI i from nI_nlt (a := 300) (by omega) (by decide)), rx_557_1 h1', p_ob, lx_559, s_ix (by omega) (by decide), s_cl (by omega), p_IIn (by decide), (h3.2 i hi).2.1, p_cl, p_bd]
  exact ⟨_, rfl, (frC.w (σ := σ) [2, 3, 5, 7, 8] hc (by decide)).trans (frC.w _ hc (by decide)) (Nat.le_refl _), (p_IIs (by decide)).trans p_IIe, p_IIe⟩
theorem ck01 {α : Type} {F : Option α} {r : Int32} (h : r = 0 ∨ r = 1) : mm_ck (decide (r = 0 ∨ r = 1)) F = F := by
  rw [decide_eq_true h]
  rfl
theorem XSt.take (h : XSt b ln N c te i o sz σ) (hN : N ≤ 300) (hi : i ≤ N) (hc : CT c) (k : Nat) (hk : k < 100) (hK : kK b ln i < 100) : (kK b ln i = k ∧ f_X7_take mm_kx n 556 (nI k) σ = some (1, mm_wI σ 556 2 (nI (i + 1))) ∧ frC [2, 3, 5] c sz σ (mm_wI σ 556 2 (nI (i + 1))) ∧ XSt b ln N c te (i + 1) o sz (mm_wI σ 556 2 (nI (i + 1)))) ∨ (kK b ln i ≠ k ∧ ∃ σ', f_X7_take mm_kx n 556 (nI k) σ = some (0, σ') ∧ frC [2, 3, 5, 7, 8] c sz σ σ' ∧ mm_I σ' 556 7 = nI 1 ∧ mm_I σ' 556 8 = nI (tsq b ln i)) := by
  unfold f_X7_take
  rw [h.kind hN hi, p_cl]
  simp only [s_eq (show kK b ln i < 2147483648 by omega) (show k < 2147483648 by omega)]
  by_cases hc1 : kK b ln i = k
  · left
    rw [if_pos hc1, p_bd, h.2.2.2.2.1, nI_1]
    exact ⟨hc1, rfl, frC.w _ hc (by decide), h.w hc (by decide) p_IIe ((p_IIs (by decide)).trans h.2.2.2.2.2.1)⟩
  · right
    obtain ⟨s, e1, e2, e3, e4⟩ := h.fail (n := n) hN hi hc 1
    have e1 : f_X7_fail mm_kx n 556 1 σ = some (0, s) := e1
    rw [if_neg hc1, e1, p_cl, ck01 (Or.inl rfl)]
    exact ⟨hc1, s, rfl, e2, e3, e4⟩
theorem XSt.number (h : XSt b ln N c te i o sz σ) (hN : N ≤ 300) (hi : i ≤ N) (hc : CT c) (lo hi' : Nat) (hl : lo < 100) (hh : hi' < 10000) (hK : kK b ln i < 100) : (kK b ln i ≠ 2 ∧ ∃ σ', f_X7_takeNumber mm_kx n 556 (nI lo) (nI hi') σ = some (0, σ') ∧ frC [2, 3, 5, 7, 8] c sz σ σ' ∧ mm_I σ' 556 7 = nI 1 ∧ mm_I σ' 556 8 = nI (tsq b ln i)) ∨ (kK b ln i = 2 ∧ ¬ (lo ≤ nN b ln i ∧ nN b ln i ≤ hi') ∧ ∃ σ', f_X7_takeNumber mm_kx n 556 (nI lo) (nI hi') σ = some (0, σ') ∧ frC [2, 3, 5, 7, 8] c sz σ σ' ∧ mm_I σ' 556 7 = nI 2 ∧ mm_I σ' 556 8 = nI (tsq b ln i)) ∨ (kK b ln i = 2 ∧ lo ≤ nN b ln i ∧ nN b ln i ≤ hi' ∧ ∃ σ', f_X7_takeNumber mm_kx n 556 (nI lo) (nI hi') σ = some (1, σ') ∧ frC [2, 3, 5] c sz σ σ' ∧ mm_I σ' 556 5 = nI (nN b ln i) ∧ XSt b ln N c te (i + 1) o sz σ') := by
  unfold f_X7_takeNumber
  rw [h.kind hN hi, p_cl]
  simp only [show (nI (kK b ln i) = 2) = (kK b ln i = 2) from s_eq (b := 2) (by omega) (by decide)]
  by_cases k2 : kK b ln i = 2
  · right
    rw [if_pos k2, rx_556_0 h.1, p_ob, h.2.2.2.2.1]
    have hnum : f_X9_numberAt mm_kx n 557 (nI i) σ = some (nI (nN b ln i), σ) := by
      unfold f_X9_numberAt
      rw [if_neg (nI_pos (by omega)), h.2.2.1.1, if_neg (nI_ge (by omega) (by omega)), if_neg (show ¬ (300 : Int32) < nI i from nI_nlt (a := 300) (by omega) (by decide)), rx_557_2 h.1, p_ob, lx_560, s_ix (by omega) (by decide), s_cl (by omega), (h.2.2.1.2 i hi).2.2 k2]
      rfl
    have hn10 : nN b ln i ≤ 10000 := Nat.min_le_left _ _
    rw [hnum, p_cl]
    simp only [p_bd]
    have s6 : XSt b ln N c te i o sz (mm_wI σ 556 5 (nI (nN b ln i))) := h.w hc (by decide) ((p_IIs (by decide)).trans h.2.2.2.2.1) ((p_IIs (by decide)).trans h.2.2.2.2.2.1)
    rw [p_IIe]
    simp only [s_lt (show nN b ln i < 2147483648 by omega) (show lo < 2147483648 by omega), s_le (show nN b ln i < 2147483648 by omega) (show hi' < 2147483648 by omega)]
    obtain ⟨s, e1, e2, e3, e4⟩ := s6.fail (n := n) hN hi hc 2
    have e1 : f_X7_fail mm_kx n 556 2 (mm_wI σ 556 5 (nI (nN b ln i))) = some (0, s) := e1
    have bad : mm_cl (f_X7_fail mm_kx n 556 2 (mm_wI σ 556 5 (nI (nN b ln i)))) (fun r10 s9 => mm_ck (decide (r10 = 0 ∨ r10 = 1)) (some (r10, s9))) = some (0, s) := by
      rw [e1, p_cl, ck01 (Or.inl rfl)]
    have fr5 : frC [2, 3, 5] c sz σ (mm_wI σ 556 5 (nI (nN b ln i))) := frC.w _ hc (by decide)
    by_cases q1 : nN b ln i < lo
    · left
      rw [if_pos q1, bad]
      exact ⟨k2, by omega, s, rfl, (fr5.mono (by simp)).trans e2 (Nat.le_refl _), e3, e4⟩
    · rw [if_neg q1]
      by_cases q2 : nN b ln i ≤ hi'
      · right
        rw [if_pos q2, p_IIs (by decide), h.2.2.2.2.1, nI_1]
        exact ⟨k2, by omega, q2, _, rfl, fr5.trans (frC.w _ hc (by decide)) (Nat.le_refl _), (p_IIs (by decide)).trans p_IIe, s6.w hc (by decide) p_IIe ((p_IIs (by decide)).trans s6.2.2.2.2.2.1)⟩
      · left
        rw [if_neg q2, bad]
        exact ⟨k2, by omega, s, rfl, (fr5.mono (by simp)).trans e2 (Nat.le_refl _), e3, e4⟩
  · left
    obtain ⟨s, e1, e2, e3, e4⟩ := h.fail (n := n) hN hi hc 1
    have e1 : f_X7_fail mm_kx n 556 1 σ = some (0, s) := e1
    rw [if_neg k2, e1, p_cl, ck01 (Or.inl rfl)]
    exact ⟨k2, s, rfl, e2, e3, e4⟩
theorem XSt.enter (h : XSt b ln N c te i o sz σ) (hN : N ≤ 300) (hi : i ≤ N) (hc : CT c) (ho : o ≤ 8) : (o < 8 ∧ ∃ σ', f_X7_enter mm_kx n 556 σ = some (1, σ') ∧ frC [2, 3, 5] c sz σ σ' ∧ XSt b ln N c te (i + 1) (o + 1) sz σ') ∨ (o = 8 ∧ ∃ σ', f_X7_enter mm_kx n 556 σ = some (0, σ') ∧ frC [2, 3, 5, 7, 8] c sz σ σ' ∧ mm_I σ' 556 7 = nI 3 ∧ mm_I σ' 556 8 = nI (tsq b ln i)) := by
  unfold f_X7_enter
  rw [h.2.2.2.2.2.1]
  simp only [show (nI o < 8) = (o < 8) from s_lt (b := 8) (by omega) (by decide)]
  by_cases q : o < 8
  · left
    rw [if_pos q, p_bd, p_bd, p_IIs (by decide), h.2.2.2.2.1, nI_1, nI_1]
    refine ⟨q, _, rfl, (frC.w (σ := σ) [2, 3, 5] hc (by decide)).trans (frC.w _ hc (by decide)) (Nat.le_refl _), ?_⟩
    have s1 : XSt b ln N c te i (o + 1) sz (mm_wI σ 556 3 (nI (o + 1))) := h.w hc (by decide) ((p_IIs (by decide)).trans h.2.2.2.2.1) p_IIe
    exact s1.w hc (by decide) p_IIe ((p_IIs (by decide)).trans s1.2.2.2.2.2.1)
  · right
    obtain ⟨s, e1, e2, e3, e4⟩ := h.fail (n := n) hN hi hc 3
    have e1 : f_X7_fail mm_kx n 556 3 σ = some (0, s) := e1
    rw [if_neg q, e1, p_cl, ck01 (Or.inl rfl)]
    exact ⟨by omega, s, rfl, e2, e3, e4⟩
theorem XSt.leave (h : XSt b ln N c te i (o + 1) sz σ) (hc : CT c) : ∃ σ', f_X7_leave mm_kx n 556 σ = some (1, σ') ∧ frC [2, 3, 5] c sz σ σ' ∧ XSt b ln N c te i o sz σ' ∧ (∀ k j, k ≠ 556 → mm_I σ' k j = mm_I σ k j) := by
  unfold f_X7_leave
  rw [p_bd, h.2.2.2.2.2.1, nI_pred]
  exact ⟨_, rfl, frC.w _ hc (by decide), h.w hc (by decide) ((p_IIs (by decide)).trans h.2.2.2.2.1) p_IIe, fun k j q => p_IIn q⟩
/-- the text's cells alone are written -/
theorem XSt.t (h : XSt b ln N c te i o sz σ) (hc : CT c) (e1 : ∀ x y, mm_R σ' x y = mm_R σ x y) (e2 : ∀ k j, 556 ≤ k → mm_I σ' k j = mm_I σ k j) {sz' : Nat} (e3 : mm_I σ' c 6 = nI sz') : XSt b ln N c te i o sz' σ' := by
  obtain ⟨h1, h2, h3, h4, h5, h6, h7⟩ := h
  exact ⟨fun q hq => (e1 _ _).trans (h1 q hq), (e1 _ _).trans h2, h3.go (fun k i q1 q2 => e2 k i (by omega)), by rw [e2 _ _ (by omega)]; exact h4, (e2 _ _ (by omega)).trans h5, (e2 _ _ (by omega)).trans h6, e3⟩
def adS (c sz u v : Nat) (σ : mm_M) : mm_M := mm_wI (mm_wI (mm_wI σ (c + 4) sz (nI u)) (c + 5) sz (nI v)) c 6 (nI (sz + 1))
theorem adS_s {u v k : Nat} (hu : u < 100) : sR c (adS c sz u v σ) k = if k = sz then u else sR c σ k := by
  unfold sR adS
  rw [p_IIn (by omega), p_IIn (by omega), p_II]
  by_cases q : k = sz
  · rw [if_pos ⟨rfl, q⟩, if_pos q, s_cl (by omega)]
  · rw [if_neg (fun x => q x.2), if_neg q]
theorem adS_v {u v k : Nat} (hv : v < 10000) : vR c (adS c sz u v σ) k = if k = sz then v else vR c σ k := by
  unfold vR adS
  rw [p_IIn (by omega), p_II]
  by_cases q : k = sz
  · rw [if_pos ⟨rfl, q⟩, if_pos q, s_cl (by omega)]
  · rw [if_neg (fun x => q x.2), if_neg q, p_IIn (by omega)]
theorem adS_fr (hc : CT c) {u v : Nat} (S : List Nat) : frC S c sz σ (adS c sz u v σ) := by
  have := hc.b
  unfold adS
  refine ⟨fun _ _ => rfl, fun k i q1 q2 q3 q4 => by rw [p_IIn q2, p_IIn q4, p_IIn q3], fun i q => by rw [p_IIn (by omega), p_IIn (by omega), p_IIn (by omega)], fun i q => by rw [p_IIs q, p_IIn (by omega), p_IIn (by omega)], fun i q => ⟨?_, ?_⟩⟩
  · rw [p_IIn (by omega), p_IIn (by omega), p_IIs (by omega)]
  · rw [p_IIn (by omega), p_IIs (by omega), p_IIn (by omega)]
theorem RW.ad {lo u v : Nat} (h : RW c lo sz σ) (hu : u < 100) (hv : v < 10000) : RW c lo (sz + 1) (adS c sz u v σ) := by
  intro k k1 k2
  rw [adS_s hu, adS_v hv]
  unfold adS
  rw [p_IIn (by omega), p_IIn (by omega), p_II, p_IIn (by omega), p_II]
  by_cases q : k = sz
  · simp only [true_and, if_pos q]
    exact ⟨hu, hv⟩
  · simp only [true_and, if_neg q]
    rw [p_IIn (by omega)]
    exact h k k1 (by omega)
theorem XSt.add (h : XSt b ln N c te i o sz σ) (hc : CT c) (hs : sz < 300) (u v : Nat) : f_X8_addStep mm_kx n c (nI u) (nI v) σ = some (1, adS c sz u v σ) ∧ XSt b ln N c te i o (sz + 1) (adS c sz u v σ) := by
  obtain ⟨r0, r1, r2, r4, r5⟩ := hc.r h.1
  obtain ⟨l1, l2, l3, l4, l5⟩ := hc.l
  have := hc.b
  have h6 := h.2.2.2.2.2.2
  constructor
  · unfold f_X8_addStep
    rw [h6, if_neg (nI_pos (by omega)), if_pos (show nI sz < 300 from nI_lt (b := 300) hs (by decide)), r4, p_ob, l4, s_ix (by omega) (by decide), s_cl (by omega), p_bd, p_RI, r5, p_ob, p_IIn (by omega), h6, l5, s_ix (by omega) (by decide), s_cl (by omega), p_bd, p_bd, p_IIn (by omega), p_IIn (by omega), h6, nI_1]
    rfl
  · exact h.t (σ' := adS c sz u v σ) hc (fun _ _ => rfl) (fun k j q => by unfold adS; rw [p_IIn (by omega), p_IIn (by omega), p_IIn (by omega)]) p_IIe
def ldS (c s v : Nat) (σ : mm_M) : mm_M := mm_wI σ (c + 5) s (nI v)
theorem ldS_s {s v k : Nat} : sR c (ldS c s v σ) k = sR c σ k := by
  unfold sR ldS
  rw [p_IIn (by omega)]
theorem ldS_v {s v k : Nat} (hv : v < 10000) : vR c (ldS c s v σ) k = if k = s then v else vR c σ k := by
  unfold vR ldS
  rw [p_II]
  by_cases q : k = s
  · rw [if_pos ⟨rfl, q⟩, if_pos q, s_cl (by omega)]
  · rw [if_neg (fun x => q x.2), if_neg q]
theorem ldS_fr (hc : CT c) {s v : Nat} (S : List Nat) (hs : sz ≤ s) : frC S c sz σ (ldS c s v σ) := by
  have := hc.b
  unfold ldS
  exact ⟨fun _ _ => rfl, fun k i q1 q2 q3 q4 => p_IIn q4, fun i q => p_IIn (by omega), fun i q => p_IIn (by omega), fun i q => ⟨p_IIn (by omega), p_IIs (by omega)⟩⟩
theorem RW.ld {lo hi s v : Nat} (h : RW c lo hi σ) (hv : v < 10000) : RW c lo hi (ldS c s v σ) := by
  intro k k1 k2
  rw [ldS_s, ldS_v hv]
  obtain ⟨g1, g2, g3, g4⟩ := h k k1 k2
  refine ⟨?_, ?_, g3, ?_⟩
  · unfold ldS
    rw [p_IIn (by omega)]
    exact g1
  · unfold ldS
    rw [p_II]
    by_cases q : k = s
    · rw [if_pos ⟨rfl, q⟩, if_pos q]
    · rw [if_neg (fun x => q x.2), if_neg q]
      exact g2
  · split
    · exact hv
    · exact g4
theorem XSt.lead (h : XSt b ln N c te i o sz σ) (hc : CT c) {s : Nat} (hs : s < 300) : f_X8_leadHere mm_kx n c (nI s) σ = some (ldS c s sz σ) ∧ XSt b ln N c te i o sz (ldS c s sz σ) := by
  obtain ⟨r0, r1, r2, r4, r5⟩ := hc.r h.1
  obtain ⟨l1, l2, l3, l4, l5⟩ := hc.l
  have := hc.b
  have h6 := h.2.2.2.2.2.2
  constructor
  · unfold f_X8_leadHere
    rw [if_neg (nI_pos (by omega)), if_neg (show ¬ (300 : Int32) ≤ nI s from nI_ge (b := 300) hs (by decide)), r5, p_ob, l5, s_ix (by omega) (by decide), s_cl (by omega), p_bd, h6]
    rfl
  · exact h.t (σ' := ldS c s sz σ) hc (fun _ _ => rfl) (fun k j q => by unfold ldS; rw [p_IIn (by omega)]) (by unfold ldS; rw [p_IIn (by omega)]; exact h6)
theorem RW.go {lo hi : Nat} (h : RW c lo hi σ) (e : ∀ k, k < hi → mm_I σ' (c + 4) k = mm_I σ (c + 4) k ∧ mm_I σ' (c + 5) k = mm_I σ (c + 5) k) : RW c lo hi σ' := by
  intro k k1 k2
  have q1 : sR c σ' k = sR c σ k := by
    unfold sR
    rw [(e k k2).1]
  have q2 : vR c σ' k = vR c σ k := by
    unfold vR
    rw [(e k k2).2]
  rw [(e k k2).1, (e k k2).2, q1, q2]
  exact h k k1 k2
theorem SV.go {d s0 s1 : Nat} {E : Vl} (h : SV d (sR c σ) (vR c σ) s0 s1 E) (e : ∀ k, k < s1 → mm_I σ' (c + 4) k = mm_I σ (c + 4) k ∧ mm_I σ' (c + 5) k = mm_I σ (c + 5) k) : SV d (sR c σ') (vR c σ') s0 s1 E := h.congr (fun k _ k2 => by unfold sR; rw [(e k k2).1]) (fun k _ k2 => by unfold vR; rw [(e k k2).2])
theorem SV.ad {d s0 u v : Nat} {E : Vl} (h : SV d (sR c σ) (vR c σ) s0 sz E) (hu : u < 100) (hv : v < 10000) : SV d (sR c (adS c sz u v σ)) (vR c (adS c sz u v σ)) s0 sz E := h.congr (fun k _ k2 => by rw [adS_s hu, if_neg (by omega)]) (fun k _ k2 => by rw [adS_v hv, if_neg (by omega)])
/-- how a reader comes out -/
def XCo (b : Nat → Nat) (ln N c : Nat) (te : Bool) (d : Nat) (F : Option (Int32 × mm_M)) (σ : mm_M) (i o sz : Nat) (r : Rs) : Prop := match r with
  | .inl x => 0 < x.1 ∧ x.1 < 6 ∧ ∃ σ', F = some (0, σ') ∧ frC [2, 3, 5, 7, 8] c sz σ σ' ∧ mm_I σ' 556 7 = nI x.1 ∧ mm_I σ' 556 8 = nI (tsq b ln x.2)
  | .inr y => i < y.1 ∧ y.1 ≤ N ∧ ∃ sz' σ', F = some (1, σ') ∧ frC [2, 3, 5] c sz σ σ' ∧ XSt b ln N c te y.1 o sz' σ' ∧ sz < sz' ∧ sz' + i ≤ sz + y.1 ∧ RW c sz sz' σ' ∧ SV d (sR c σ') (vR c σ') sz sz' y.2
def XC (b : Nat → Nat) (ln N c : Nat) (te : Bool) (d o : Nat) (F : mm_M → Option (Int32 × mm_M)) (rf : Nat → Rs) : Prop := ∀ i sz σ, XSt b ln N c te i o sz σ → i ≤ N → sz ≤ i → XCo b ln N c te d (F σ) σ i o sz (rf i)
end RD
