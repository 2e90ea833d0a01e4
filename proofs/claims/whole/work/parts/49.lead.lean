/-! asking -/
def frX (c : Nat) (σ σ' : mm_M) : Prop := (∀ a b, mm_R σ' a b = mm_R σ a b) ∧ ∀ k, (k < c ∨ c + 8 ≤ k) → k ≠ 562 → k ≠ 563 → ∀ i, mm_I σ' k i = mm_I σ k i
theorem frX.rfl' (c : Nat) (σ : mm_M) : frX c σ σ := ⟨fun _ _ => rfl, fun _ _ _ _ _ => rfl⟩
theorem frX.trans {c : Nat} {σ s t : mm_M} (h1 : frX c σ s) (h2 : frX c s t) : frX c σ t := ⟨fun a b => (h2.1 a b).trans (h1.1 a b), fun k a b d i => (h2.2 k a b d i).trans (h1.2 k a b d i)⟩
theorem frX.w {c : Nat} {σ s : mm_M} (h : frX c σ s) {k : Nat} (h1 : c ≤ k) (h2 : k < c + 8) (i : Nat) (v : Int32) : frX c σ (mm_wI s k i v) := ⟨h.1, fun a q1 q2 q3 b => by
  rw [p_IIn (by omega)]
  exact h.2 a q1 q2 q3 b⟩
theorem eqy.frX {c : Nat} {σ s : mm_M} (h : eqy σ s [562, 563] []) : frX c σ s := ⟨fun a b => h.R a b, fun k _ q2 q3 i => h.2.1 k (by simp; omega) i⟩
theorem EX.go {n c : Nat} {g pn : Nat → Nat} {ru : Nat} {M : Option ((Nat → Int) → Int) × Option ((Nat → Int) → Int)} {σ s : mm_M} (E : EX n g pn ru M σ) (h : frX c σ s) (h1 : 8 ≤ c) (h2 : c + 8 ≤ 532) : EX n g pn ru M s := by
  obtain ⟨⟨rf, hpn, hp9, hh, hg, hgt, hP⟩, h5, h4, e0, e1⟩ := E
  refine ⟨⟨fun q hq => (h.1 _ _).trans (rf q hq), fun w hw => (h.2 3 (by omega) (by omega) (by omega) w).trans (hpn w hw), hp9, fun w hw => (h.2 4 (by omega) (by omega) (by omega) w).trans (hh w hw), hg, hgt, fun w q1 q2 => ?_⟩, (h.2 1 (by omega) (by omega) (by omega) 5).trans h5, h4, e0, fun hr => ?_⟩
  · rw [h.2 5 (by omega) (by omega) (by omega), h.2 6 (by omega) (by omega) (by omega), h.2 7 (by omega) (by omega) (by omega)]
    exact hP w q1 q2
  · exact (e1 hr).go (fun k q1 q2 i => h.2 k (by omega) (by omega) (by omega) i)
theorem HX.gof {c : Nat} {H : Nat → Nat → Nat} {σ s : mm_M} (h : HX c H σ) (hc : c + 8 ≤ 562) (e : eqy σ s [562, 563] []) : HX c H s := h.go (fun j => e.R _ _) (fun k q1 q2 i => e.2.1 k (by simp; omega) i)
def frM (τ τ' : mm_M) : Prop := (∀ a b, mm_R τ' a b = mm_R τ a b) ∧ ∀ k i, k ≠ 4 → k ≠ 5 → k ≠ 8 → k ≠ 10 → ¬ (k = 1 ∧ (5 ≤ i ∧ i < 49 ∨ 2054 ≤ i)) → ¬ (k = 0 ∧ i = 26) → mm_I τ' k i = mm_I τ k i
theorem frM.rfl' (τ : mm_M) : frM τ τ := ⟨fun _ _ => rfl, fun _ _ _ _ _ _ _ _ => rfl⟩
theorem frM.trans {τ s t : mm_M} (h1 : frM τ s) (h2 : frM s t) : frM τ t := ⟨fun a b => (h2.1 a b).trans (h1.1 a b), fun k i a b c d e f => (h2.2 k i a b c d e f).trans (h1.2 k i a b c d e f)⟩
theorem frM.w {τ s : mm_M} (h : frM τ s) {i : Nat} (h1 : 5 ≤ i ∧ i < 49 ∨ 2054 ≤ i) (v : Int32) : frM τ (mm_wI s 1 i v) := ⟨h.1, fun k j a b c d e f => by
  rw [p_II, if_neg (by omega)]
  exact h.2 k j a b c d e f⟩
theorem frM.w26 {τ s : mm_M} (h : frM τ s) (v : Int32) : frM τ (mm_wI s 0 26 v) := ⟨h.1, fun k j a b c d e f => by
  rw [p_II, if_neg (by omega)]
  exact h.2 k j a b c d e f⟩
theorem eqy.frM {τ s : mm_M} (h : eqy τ s [4, 5, 8, 10] [9]) : frM τ s := ⟨fun a b => h.R a b, fun k i a b c d _ _ => h.2.1 k (by simp; omega) i⟩
theorem WM.gof {g pn : Nat → Nat} {τ s : mm_M} (h : WM g pn τ) (f : frM τ s) : WM g pn s := ⟨fun q hq => (f.1 _ _).trans (h.1 q hq), fun w hw => (f.2 1 _ (by omega) (by omega) (by omega) (by omega) (by omega) (by omega)).trans (h.2.1 w hw), fun w hw => (f.2 1 _ (by omega) (by omega) (by omega) (by omega) (by omega) (by omega)).trans (h.2.2 w hw)⟩
theorem EM.go {n : Nat} {g pn : Nat → Nat} {ru : Nat} {M : Option ((Nat → Int) → Int) × Option ((Nat → Int) → Int)} {τ s : mm_M} (E : EM n g pn ru M τ) (f : frM τ s) : EM n g pn ru M s := ⟨E.1.gof f, (f.2 1 2 (by omega) (by omega) (by omega) (by omega) (by omega) (by omega)).trans E.2.1, fun hr => (E.2.2 hr).go (fun i _ _ => f.2 3 i (by omega) (by omega) (by omega) (by omega) (by omega) (by omega))⟩
theorem HM.gof {H : Nat → Nat → Nat} {τ s : mm_M} (h : HM 1 H τ) (h5 : H 8 4 ≤ 5) (e : eqy τ s [4, 5, 8, 10] [9]) : HM 1 H s := h.go (fun i _ => e.2.1 1 (by decide) i) h5
theorem HMb.gof {H : Nat → Nat → Nat} {τ s : mm_M} (h : HMb 1 H τ) (e : eqy τ s [4, 5, 8, 10] [9]) : HMb 1 H s := h.go (e.2.1 1 (by decide) _) (fun i _ => e.2.1 1 (by decide) i)
/-- where one would go: 12 nowhere -/
def nxL (o : Nat) (T : Nat → Int) : Nat → Nat → Nat → Int → Nat
  | 0, _, fd, _ => fd
  | m + 1, i, fd, ms => if o.testBit i = true ∧ (fd = 12 ∨ ms < T i) then nxL o T m (i + 1) i (T i) else nxL o T m (i + 1) fd ms
def nxt (m : Option ((Nat → Int) → Int)) (g pn : Nat → Nat) (H : Nat → Nat → Nat) (p : Nat) : Nat := nxL (nd (g (H 0 p)) (H 5 p)) (tlv m g pn H p) 12 0 12 0
theorem nxL_b (o : Nat) (T : Nat → Int) : ∀ (m i fd : Nat) (ms : Int), i + m = 12 → (nxL o T m i fd ms = fd ∨ (nxL o T m i fd ms < 12 ∧ o.testBit (nxL o T m i fd ms) = true)) := by
  intro m
  induction m with
  | zero => intro i fd ms _; exact Or.inl rfl
  | succ m ih =>
    intro i fd ms h
    unfold nxL
    split
    · rename_i hc
      rcases ih (i + 1) i (T i) (by omega) with h1 | h1
      · rw [h1]
        exact Or.inr ⟨by omega, hc.1⟩
      · exact Or.inr h1
    · exact ih (i + 1) fd ms (by omega)
theorem nxt_b (m : Option ((Nat → Int) → Int)) (g pn : Nat → Nat) (H : Nat → Nat → Nat) (p : Nat) : nxt m g pn H p = 12 ∨ (nxt m g pn H p < 12 ∧ (g (H 0 p)).testBit (nxt m g pn H p) = true) := by
  rcases nxL_b (nd (g (H 0 p)) (H 5 p)) (tlv m g pn H p) 12 0 12 0 rfl with h | ⟨h1, h2⟩
  · exact Or.inl h
  · refine Or.inr ⟨h1, ?_⟩
    rw [nd_bit, Bool.and_eq_true] at h2
    exact h2.1
def fdI (fd : Nat) : Int32 := if fd = 12 then -1 else nI fd
section LD
variable {n c : Nat} {g pn : Nat → Nat} {ru : Nat} {M : Option ((Nat → Int) → Int) × Option ((Nat → Int) → Int)} {H : Nat → Nat → Nat} {σ τ : mm_M}
theorem x_nextL (E : EX n g pn ru M σ) (h : HX c H σ) (hl : HL c) (h8 : 8 ≤ c) (hc : c + 8 ≤ 532) (hb : HB H) {p o : Nat} (hp : p < H 8 4) (ho : o < 4096) (k : Int32 → mm_M → Option (Int32 × mm_M)) : ∀ (m i fd : Nat) (ms : Int) (f : Nat) (s : mm_M), m + i = 12 → m < f → fd ≤ 12 → (fd ≠ 12 → -999 ≤ ms ∧ ms ≤ 999) → eqy σ s [562, 563] [] → ∃ s', L_X2_nextPlace_66 mm_kx n 564 c (nI p) (rtx ru) (nI o) k f (fdI fd) (iI (if fd = 12 then -1000 else ms)) (nI i) s = k (fdI (nxL o (tlv M.1 g pn H p) m i fd ms)) s' ∧ eqy σ s' [562, 563] [] := by
  intro m
  induction m with
  | zero =>
    intro i fd ms f s hi hf hd hb' e
    obtain ⟨f, rfl⟩ : ∃ f', f = f' + 1 := ⟨f - 1, by omega⟩
    rw [L_X2_nextPlace_66_s, show i = 12 by omega, if_pos le12]
    exact ⟨s, rfl, e⟩
  | succ m ih =>
    intro i fd ms f s hi hf hd hb' e
    obtain ⟨f, rfl⟩ : ∃ f', f = f' + 1 := ⟨f - 1, by omega⟩
    have E1 := E.go e.frX h8 hc
    have hp9 := E.1.2.2.1
    have rf1 := E1.1.1
    have h1 := h.gof (by omega) e
    have ob : o < 2147483648 := by omega
    rw [L_X2_nextPlace_66_s, if_neg (p_ge12 (show i < 12 by omega))]
    simp only [p_bd, nI_1, lit_0, s_has0 ob (show i < 32 by omega)]
    unfold nxL
    by_cases hq : o.testBit i = true
    · rw [if_neg (by rw [hq]; decide), rx_564_2 rf1, p_ob]
      obtain ⟨s2, w1, w2⟩ := x_saysNext E1 h1 hl hc hb hp (show i < 12 by omega)
      rw [w1, p_cl]
      have tb := tlv_b (m := M.1) (g := g) (H := H) (p := p) hp9 (show i < 12 by omega)
      have e2 := e.trans w2
      by_cases hfd : fd = 12
      · rw [if_pos hfd]
        simp (disch := omega) only [iI_le]
        rw [if_neg (show ¬ tlv M.1 g pn H p i ≤ -1000 by omega), if_pos (show o.testBit i = true ∧ (fd = 12 ∨ ms < tlv M.1 g pn H p i) from ⟨hq, Or.inl hfd⟩)]
        obtain ⟨s3, z1, z2⟩ := ih (i + 1) i (tlv M.1 g pn H p i) f s2 (by omega) (by omega) (by omega) (fun _ => tb) e2
        rw [if_neg (by omega), show fdI i = nI i from if_neg (by omega)] at z1
        exact ⟨s3, z1, z2⟩
      · obtain ⟨m1, m2⟩ := hb' hfd
        rw [if_neg hfd]
        simp (disch := omega) only [iI_le]
        by_cases hlt : ms < tlv M.1 g pn H p i
        · rw [if_neg (show ¬ tlv M.1 g pn H p i ≤ ms by omega), if_pos (show o.testBit i = true ∧ (fd = 12 ∨ ms < tlv M.1 g pn H p i) from ⟨hq, Or.inr hlt⟩)]
          obtain ⟨s3, z1, z2⟩ := ih (i + 1) i (tlv M.1 g pn H p i) f s2 (by omega) (by omega) (by omega) (fun _ => tb) e2
          rw [if_neg (by omega), show fdI i = nI i from if_neg (by omega)] at z1
          exact ⟨s3, z1, z2⟩
        · rw [if_pos (show tlv M.1 g pn H p i ≤ ms by omega), if_neg (show ¬ (o.testBit i = true ∧ (fd = 12 ∨ ms < tlv M.1 g pn H p i)) from fun q => q.2.elim hfd hlt)]
          obtain ⟨s3, z1, z2⟩ := ih (i + 1) fd ms f s2 (by omega) (by omega) hd hb' e2
          rw [if_neg hfd] at z1
          exact ⟨s3, z1, z2⟩
    · rw [if_pos (by simpa using hq), if_neg (show ¬ (o.testBit i = true ∧ (fd = 12 ∨ ms < tlv M.1 g pn H p i)) from fun q => hq q.1)]
      exact ih (i + 1) fd ms f s (by omega) (by omega) hd hb' e
theorem x_next (hn : 13 ≤ n) (E : EX n g pn ru M σ) (h : HX c H σ) (hl : HL c) (h8 : 8 ≤ c) (hc : c + 8 ≤ 532) (hb : HB H) {p : Nat} (hp : p < H 8 4) : ∃ s', f_X2_nextPlace mm_kx n 564 c (nI p) σ = some (fdI (nxt M.1 g pn H p), s') ∧ eqy σ s' [562, 563] [] := by
  have h5 := hb.1.2.2.2.2
  obtain ⟨q0, q1, q2, q3, q4, q5⟩ := hb.2.1 p hp
  have hE := E
  obtain ⟨⟨rf, hpn, hp9, hh, hg, hgt, hP⟩, -, -, -, -⟩ := E
  have r0 := h.p0 hp
  have r5 := h.p5 hp
  have r4 := hh _ q0
  have gl := hg _ q0
  have nl := nd12 (H 5 p) gl
  unfold f_X2_nextPlace
  rw [x_thereP h hb hp, p_cl, if_neg n10]
  simp (disch := omega) only [lit_0, lit_1, lit_2, lit_3, lit_4, lit_5, lit_6, lit_7, lit_8, lit_9, lit_10, lit_11, lit_12, lit_13, lit_14, lit_15, lit_16, lit_17, lit_18, lit_19, lit_20, lit_21, lit_22, lit_23, lit_24, lit_25, lit_26, lit_27, lit_28, lit_29, lit_30, lit_31, lit_32, lit_33, lit_34, lit_35, lit_36, lit_37, lit_38, lit_39, lit_40, lit_41, lit_42, lit_43, lit_44, lit_45, lit_46, lit_47, lit_48, lit_49, lit_50, lit_51, lit_52, lit_53, lit_54, lit_55, lit_56, lit_57, lit_58, lit_59, lit_60, lit_61, lit_62, lit_63, lit_64, lit_65, lit_66, lit_67, lit_68, lit_69, lit_73, lit_78, lit_83, lit_88, lit_90, lit_97, lit_99, lit_104, lit_122, lit_127, lit_251, lit_255, lit_300, lit_379, lit_491, lit_495, lit_681, lit_999, lit_1000, lit_2054, lit_2084, lit_4095, lit_4096, lit_7776, lit_9999, lit_10000, lit_30677, lit_99999, lit_1000000, rx_0_0 rf, rx_0_1 rf, rx_0_2 rf, rx_0_3 rf, rx_0_4 rf, rx_0_5 rf, rx_0_6 rf, rx_0_7 rf, rx_0_8 rf, rx_0_9 rf, rx_0_10 rf, rx_1_0 rf, rx_1_1 rf, rx_1_2 rf, rx_1_6 rf, rx_1_7 rf, rx_1_8 rf, rx_1_9 rf, rx_1_10 rf, rx_2_0 rf, rx_2_1 rf, rx_2_2 rf, rx_2_3 rf, rx_2_4 rf, rx_262_0 rf, rx_262_1 rf, rx_262_2 rf, rx_262_6 rf, rx_262_7 rf, rx_262_8 rf, rx_262_9 rf, rx_262_10 rf, rx_263_0 rf, rx_263_1 rf, rx_263_2 rf, rx_263_3 rf, rx_263_4 rf, rx_531_0 rf, rx_531_1 rf, rx_531_2 rf, rx_531_3 rf, rx_532_0 rf, rx_532_1 rf, rx_532_2 rf, rx_532_4 rf, rx_532_5 rf, rx_538_0 rf, rx_538_1 rf, rx_538_2 rf, rx_538_4 rf, rx_538_5 rf, rx_544_0 rf, rx_544_1 rf, rx_544_2 rf, rx_544_4 rf, rx_544_5 rf, rx_550_0 rf, rx_550_1 rf, rx_550_2 rf, rx_550_4 rf, rx_550_5 rf, rx_556_0 rf, rx_557_0 rf, rx_557_1 rf, rx_557_2 rf, rx_561_0 rf, rx_561_1 rf, rx_561_2 rf, rx_564_0 rf, rx_564_1 rf, rx_564_2 rf, rx_565_0 rf, rx_565_1 rf, rx_565_2 rf, rx_565_3 rf, rx_569_0 rf, rx_569_1 rf, rx_569_2 rf, rx_572_0 rf, rx_572_1 rf, rx_572_2 rf, lx_3, lx_4, lx_5, lx_6, lx_7, lx_9, lx_10, lx_11, lx_12, lx_13, lx_14, lx_15, lx_16, lx_17, lx_18, lx_19, lx_20, lx_21, lx_264, lx_265, lx_266, lx_267, lx_268, lx_270, lx_271, lx_272, lx_273, lx_274, lx_275, lx_276, lx_277, lx_278, lx_279, lx_280, lx_281, lx_282, lx_524, lx_525, lx_526, lx_527, lx_528, lx_529, lx_530, lx_531, lx_533, lx_534, lx_535, lx_536, lx_537, lx_539, lx_540, lx_541, lx_542, lx_543, lx_545, lx_546, lx_547, lx_548, lx_549, lx_551, lx_552, lx_553, lx_554, lx_555, lx_558, lx_559, lx_560, lx_562, lx_563, lx_566, lx_567, lx_568, lx_570, lx_571, lx_573, lx_574, lx_575, p_ob, p_bd, p_ck, p_cl, p_cv, s_ix, s_cl, nI_add, pk_mul, p_or, p_and, p_xor, s_nd, s_shl, s_m1, s_has0, s_has1, s_hasM0, s_hasM1, h.r0, h.r5, hl.l1, hl.l6, r0, r5, r4, v_wantP q0, x_ruling hE]
  rw [if_neg (by decide)]
  have := x_nextL hE h hl h8 hc hb hp nl (fun x18 s19 => some (x18, s19)) 12 0 12 0 n σ rfl (by omega) (by omega) (by omega) (eqy.rfl' _ _ _)
  exact this
theorem m_nextL (hn : 13 ≤ n) {σ : mm_M} (hx : WX g pn σ) (E : EM n g pn ru M τ) (h0 : ru = 0 → M = (none, none)) (h4 : ru ≤ 4) (h : HM 1 H τ) (hb : HB H) {p : Nat} (hp : p < H 8 4) (k : Int32 → mm_M → Option (Int32 × mm_M)) : ∀ (m i fd : Nat) (ms : Int) (f : Nat) (s : mm_M), m + i = 12 → m < f → fd ≤ 12 → -999 ≤ ms ∧ ms ≤ 999 → eqy τ s [4, 5, 8, 10] [9] → ∃ s', L_X12_nextOf_7 mm_km n 0 (nI p) k f (fdI fd) (iI ms) (nI i) s = k (fdI (nxL (nd (g (H 0 p)) (H 5 p)) (tlv M.1 g pn H p) m i fd ms)) s' ∧ eqy τ s' [4, 5, 8, 10] [9] := by
  have h5 := hb.1.2.2.2.2
  obtain ⟨q0, q1, q2, q3, q4, q5⟩ := hb.2.1 p hp
  have gl := hx.2.2.2.2.1 _ q0
  have nl := nd12 (H 5 p) gl
  have hp9 := hx.2.2.1
  intro m
  induction m with
  | zero =>
    intro i fd ms f s hi hf hd hb' e
    obtain ⟨f, rfl⟩ : ∃ f', f = f' + 1 := ⟨f - 1, by omega⟩
    rw [L_X12_nextOf_7_s, show i = 12 by omega, if_pos le12]
    exact ⟨s, rfl, e⟩
  | succ m ih =>
    intro i fd ms f s hi hf hd hb' e
    obtain ⟨f, rfl⟩ : ∃ f', f = f' + 1 := ⟨f - 1, by omega⟩
    have E1 := E.go e.frM
    have h1 := h.gof h5 e
    have r0 := h1.p0 hp
    have r5 := h1.p5 hp
    have r4 := E1.1.2.2 _ q0
    rw [L_X12_nextOf_7_s, if_neg (p_ge12 (show i < 12 by omega))]
    simp (disch := omega) only [f_X12_get, lit_0, lit_1, lit_2, lit_3, lit_4, lit_5, lit_6, lit_7, lit_8, lit_9, lit_10, lit_11, lit_12, lit_13, lit_14, lit_15, lit_16, lit_17, lit_18, lit_19, lit_20, lit_21, lit_22, lit_23, lit_24, lit_25, lit_26, lit_27, lit_28, lit_29, lit_30, lit_31, lit_32, lit_33, lit_34, lit_35, lit_36, lit_37, lit_38, lit_39, lit_40, lit_41, lit_42, lit_43, lit_44, lit_45, lit_46, lit_47, lit_48, lit_49, lit_50, lit_51, lit_52, lit_53, lit_54, lit_55, lit_56, lit_57, lit_58, lit_59, lit_60, lit_61, lit_62, lit_63, lit_64, lit_65, lit_66, lit_67, lit_68, lit_69, lit_73, lit_78, lit_83, lit_88, lit_90, lit_97, lit_99, lit_104, lit_122, lit_127, lit_251, lit_255, lit_300, lit_379, lit_491, lit_495, lit_681, lit_999, lit_1000, lit_2054, lit_2084, lit_4095, lit_4096, lit_7776, lit_9999, lit_10000, lit_30677, lit_99999, lit_1000000, rm_0 E1.1.1, rm_1 E1.1.1, rm_2 E1.1.1, rm_3 E1.1.1, rm_4 E1.1.1, rm_5 E1.1.1, rm_17 E1.1.1, rm_22 E1.1.1, rm_23 E1.1.1, rm_24 E1.1.1, rm_27 E1.1.1, rm_28 E1.1.1, rm_29 E1.1.1, rm_30 E1.1.1, rm_31 E1.1.1, rm_32 E1.1.1, rm_33 E1.1.1, rm_34 E1.1.1, rm_35 E1.1.1, lm_1, lm_2, lm_3, lm_4, lm_5, lm_6, lm_7, lm_8, lm_9, lm_10, lm_11, lm_12, lm_13, lm_14, lm_15, lm_16, lm_17, lm_18, lm_19, p_ob, p_bd, p_ck, p_cl, p_cv, s_ix, s_cl, nI_add, pk_mul, p_or, p_and, p_xor, s_nd, s_shl, s_m1, s_has0, s_has1, s_hasM0, s_hasM1, r0, r5, r4]
    unfold nxL
    by_cases hq : (nd (g (H 0 p)) (H 5 p)).testBit i = true
    · rw [if_neg (by rw [hq]; decide)]
      obtain ⟨s2, w1, w2⟩ := m_tellsOf hn hx E1 h0 h4 h1 hb hp (show i < 12 by omega)
      rw [w1, p_cl]
      have tb := tlv_b (m := M.1) (g := g) (H := H) (p := p) hp9 (show i < 12 by omega)
      have e2 := e.trans w2
      have go : ∃ s', L_X12_nextOf_7 mm_km n 0 (nI p) k f (nI i) (iI (tlv M.1 g pn H p i)) (nI (i + 1)) s2 = k (fdI (nxL (nd (g (H 0 p)) (H 5 p)) (tlv M.1 g pn H p) m (i + 1) i (tlv M.1 g pn H p i))) s' ∧ eqy τ s' [4, 5, 8, 10] [9] := by
        obtain ⟨s3, z1, z2⟩ := ih (i + 1) i (tlv M.1 g pn H p i) f s2 (by omega) (by omega) (by omega) tb e2
        rw [show fdI i = nI i from if_neg (by omega)] at z1
        exact ⟨s3, z1, z2⟩
      by_cases hfd : fd = 12
      · rw [if_pos (show fdI fd = -nI 1 by rw [hfd]; rfl), if_pos ⟨hq, Or.inl hfd⟩]
        exact go
      · rw [if_neg (show ¬ fdI fd = -nI 1 by rw [show fdI fd = nI fd from if_neg hfd, s_neg2 (by omega)]; exact id)]
        simp (disch := omega) only [iI_lt]
        by_cases hlt : ms < tlv M.1 g pn H p i
        · rw [if_pos hlt, if_pos ⟨hq, Or.inr hlt⟩]
          exact go
        · rw [if_neg hlt, if_neg (fun q => q.2.elim hfd hlt)]
          exact ih (i + 1) fd ms f s2 (by omega) (by omega) hd hb' e2
    · rw [if_pos (by simpa using hq), if_neg (fun q => hq q.1)]
      exact ih (i + 1) fd ms f s (by omega) (by omega) hd hb' e
theorem m_next (hn : 13 ≤ n) {σ : mm_M} (hx : WX g pn σ) (E : EM n g pn ru M τ) (h0 : ru = 0 → M = (none, none)) (h4 : ru ≤ 4) (h : HM 1 H τ) (hb : HB H) {p : Nat} (hp : p < H 8 4) : ∃ s', f_X12_nextOf mm_km n 0 (nI p) τ = some (fdI (nxt M.1 g pn H p), s') ∧ eqy τ s' [4, 5, 8, 10] [9] := by
  unfold f_X12_nextOf
  exact m_nextL hn hx E h0 h4 h hb hp (fun x7 s8 => some (x7, s8)) 12 0 12 0 n τ rfl (by omega) (by omega) (by omega) (eqy.rfl' _ _ _)
end LD
