/-! what is so -/
section WS
variable {n : Nat} {D H : Nat → Nat → Nat} {S : Nat → Nat → Nat → Nat} {Dk Hk : Nat → Nat → Nat} {Sk : Nat → Nat → Nat → Nat} {Mt : Nat → Option ((Nat → Int) → Int) × Option ((Nat → Int) → Int)} {C : Nat → Nat → Nat → Nat} {ln : Nat} {by' : Nat → Nat} {σ σ' τ τ' : mm_M}
/-- an int is one of the first, or none of them -/
theorem p_split (x : Int32) (m : Nat) (hm : m < 2147483648) : (∃ j, j < m ∧ x = nI j) ∨ (∀ j, j < m → x ≠ nI j) := by
  by_cases h : ∃ j, j < m ∧ x = nI j
  · exact Or.inl h
  · exact Or.inr (fun j hj e => h ⟨j, hj, e⟩)
theorem v_in0 {x : Int32} {b : Nat} (hb : b < 2147483647) (hx : ∀ j, j < b + 1 → x ≠ nI j) : v_X12_isIn x 0 (nI b) = 0 := by
  rcases v_inN (x := x) (a := 0) (b := b) (by omega) (by omega) with ⟨j, h1, h2, rfl, e⟩ | ⟨-, e⟩
  · exact absurd rfl (hx j (by omega))
  · exact e
theorem v_in1 {j b : Nat} (hb : b < 2147483648) (hj : j ≤ b) : v_X12_isIn (nI j) 0 (nI b) = 1 := by
  unfold v_X12_isIn
  rw [if_neg (nI_pos (by omega)), if_neg (nI_nlt hj hb)]
theorem sxF_of {s s' : mm_M} (h : eqy s s' [562, 563] []) : sxF s s' := h.sx (by simp)
theorem smF_of {t t' : mm_M} (h : eqy t t' [4, 5, 8, 10] [9]) : smF t t' := h.sm (by decide) (by decide) (by decide) (by decide) (by decide)
theorem o_of (hn : 8000 ≤ n) (a1 a2 : Int32) : mm_ok2 (Inv n) (fun σ => f_X11_of mm_kx n 0 a1 a2 σ) (fun τ => f_X12_of mm_km n 0 a1 a2 τ) := by
  rintro σ τ ⟨D, H, S, Dk, Hk, Sk, Mt, C, ln, by', h⟩
  have h : II n D H S Dk Hk Sk Mt C ln by' σ τ := h
  have b4 := h.hb.1.2.2.2.2
  show ∃ r σ' τ', f_X11_of mm_kx n 0 a1 a2 σ = _ ∧ f_X12_of mm_km n 0 a1 a2 τ = _ ∧ _
  unfold f_X11_of f_X12_of
  rw [rx_0_0 h.rx, p_ob, rx_1_1 h.rx, p_ob]
  rcases pers H b4 a1 with ⟨p, hp, rfl⟩ | hN
  · rw [x_thereP h.hx h.hb hp, p_cl, if_neg n10, m_pers h.rm h.hm b4 hp, p_cl, if_neg n10]
    have G : ∀ k, k < 8 → f_X12_get mm_km n 0 (nI p) (nI k) τ = some (nI (H k p), τ) := fun k hk => m_get (n := n) h.rm h.hm h.hb hp hk
    have G3 : f_X12_get mm_km n 0 (nI p) 3 τ = _ := G 3 (by omega)
    have G4 : f_X12_get mm_km n 0 (nI p) 4 τ = _ := G 4 (by omega)
    have G5 : f_X12_get mm_km n 0 (nI p) 5 τ = _ := G 5 (by omega)
    rcases p_split a2 8 (by omega) with ⟨j, hj, rfl⟩ | hj
    · have hj : j = 0 ∨ j = 1 ∨ j = 2 ∨ j = 3 ∨ j = 4 ∨ j = 5 ∨ j = 6 ∨ j = 7 := by omega
      rcases hj with rfl | rfl | rfl | rfl | rfl | rfl | rfl | rfl
      · rw [if_pos (show nI 0 = 0 from rfl), if_neg (show ¬ nI 0 = 3 by decide), if_neg (show ¬ nI 0 = 4 by decide), if_neg (show ¬ nI 0 = 5 by decide), if_neg (show ¬ nI 0 = 6 by decide), if_neg (show ¬ nI 0 = 7 by decide), show v_X12_isIn (nI 0) 0 2 = 1 by decide, if_neg n10, G 0 (by omega), p_cl, h.hx.r0, p_ob, s_ix (by rw [HL_8.l1]; omega) (by rw [HL_8.l1]; omega), s_cl (by omega), h.hx.p0 hp]
        exact h.no
      · rw [if_neg (show ¬ nI 1 = 0 by decide), if_pos (show nI 1 = 1 from rfl), if_neg (show ¬ nI 1 = 3 by decide), if_neg (show ¬ nI 1 = 4 by decide), if_neg (show ¬ nI 1 = 5 by decide), if_neg (show ¬ nI 1 = 6 by decide), if_neg (show ¬ nI 1 = 7 by decide), show v_X12_isIn (nI 1) 0 2 = 1 by decide, if_neg n10, G 1 (by omega), p_cl, h.hx.r1, p_ob, s_ix (by rw [HL_8.l2]; omega) (by rw [HL_8.l2]; omega), s_cl (by omega), h.hx.p1 hp]
        exact h.no
      · rw [if_neg (show ¬ nI 2 = 0 by decide), if_neg (show ¬ nI 2 = 1 by decide), if_pos (show nI 2 = 2 from rfl), if_neg (show ¬ nI 2 = 3 by decide), if_neg (show ¬ nI 2 = 4 by decide), if_neg (show ¬ nI 2 = 5 by decide), if_neg (show ¬ nI 2 = 6 by decide), if_neg (show ¬ nI 2 = 7 by decide), show v_X12_isIn (nI 2) 0 2 = 1 by decide, if_neg n10, G 2 (by omega), p_cl, h.hx.r2, p_ob, s_ix (by rw [HL_8.l3]; omega) (by rw [HL_8.l3]; omega), s_cl (by omega), h.hx.p2 hp]
        exact h.no
      · rw [if_neg (show ¬ nI 3 = 0 by decide), if_neg (show ¬ nI 3 = 1 by decide), if_neg (show ¬ nI 3 = 2 by decide), if_pos (show nI 3 = 3 from rfl), if_pos (show nI 3 = 3 from rfl), G4, p_cl, h.hx.r3, p_ob, s_ix (by rw [HL_8.l4]; omega) (by rw [HL_8.l4]; omega), s_cl (by omega), h.hx.p4 hp]
        exact h.no
      · rw [if_neg (show ¬ nI 4 = 0 by decide), if_neg (show ¬ nI 4 = 1 by decide), if_neg (show ¬ nI 4 = 2 by decide), if_neg (show ¬ nI 4 = 3 by decide), if_pos (show nI 4 = 4 from rfl), if_neg (show ¬ nI 4 = 3 by decide), if_pos (show nI 4 = 4 from rfl), G5, p_cl, h.hx.r5, p_ob, s_ix (by rw [HL_8.l6]; omega) (by rw [HL_8.l6]; omega), s_cl (by omega), h.hx.p5 hp]
        exact h.no
      · rw [if_neg (show ¬ nI 5 = 0 by decide), if_neg (show ¬ nI 5 = 1 by decide), if_neg (show ¬ nI 5 = 2 by decide), if_neg (show ¬ nI 5 = 3 by decide), if_neg (show ¬ nI 5 = 4 by decide), if_pos (show nI 5 = 5 from rfl), if_neg (show ¬ nI 5 = 3 by decide), if_neg (show ¬ nI 5 = 4 by decide), if_pos (show nI 5 = 5 from rfl), G3, p_cl, h.hx.r4, p_ob, s_ix (by rw [HL_8.l5]; omega) (by rw [HL_8.l5]; omega), s_cl (by omega), h.hx.p3 hp]
        exact h.no
      · obtain ⟨s, w1, w2⟩ := x_saysNeed h.ex h.hx HL_8 (by omega) h.hb hp
        obtain ⟨t, y1, y2⟩ := m_needsOf (m := (rulM Mt (D 7 2)).2) (ru := D 7 2) (by omega) h.wx h.wm (fun hr => (h.em.2.2 hr).2) (fun hr => by rw [hr]; rfl) h.hm h.hb hp
        rw [if_neg (show ¬ nI 6 = 0 by decide), if_neg (show ¬ nI 6 = 1 by decide), if_neg (show ¬ nI 6 = 2 by decide), if_neg (show ¬ nI 6 = 3 by decide), if_neg (show ¬ nI 6 = 4 by decide), if_neg (show ¬ nI 6 = 5 by decide), if_pos (show nI 6 = 6 from rfl), if_neg (show ¬ nI 6 = 3 by decide), if_neg (show ¬ nI 6 = 4 by decide), if_neg (show ¬ nI 6 = 5 by decide), if_pos (show nI 6 = 6 from rfl), rx_0_5 h.rx, p_ob, rx_0_6 h.rx, p_ob, x_ruling h.ex, p_cl, w1, p_cl, rm_0 h.rm, p_ob, im_2, show (2 : Int32).toNatClampNeg = 2 from rfl, h.em.2.1, y1, p_cl]
        exact ⟨_, s, t, rfl, rfl, h.inv.sc (sxF_of w2) (smF_of y2)⟩
      · obtain ⟨s, w1, w2⟩ := x_next (by omega) h.ex h.hx HL_8 (by omega) (by omega) h.hb hp
        obtain ⟨t, y1, y2⟩ := m_next (by omega) h.wx h.em (fun hr => by rw [hr]; rfl) h.ru h.hm h.hb hp
        rw [if_neg (show ¬ nI 7 = 0 by decide), if_neg (show ¬ nI 7 = 1 by decide), if_neg (show ¬ nI 7 = 2 by decide), if_neg (show ¬ nI 7 = 3 by decide), if_neg (show ¬ nI 7 = 4 by decide), if_neg (show ¬ nI 7 = 5 by decide), if_neg (show ¬ nI 7 = 6 by decide), if_pos (show nI 7 = 7 from rfl), if_neg (show ¬ nI 7 = 3 by decide), if_neg (show ¬ nI 7 = 4 by decide), if_neg (show ¬ nI 7 = 5 by decide), if_neg (show ¬ nI 7 = 6 by decide), if_pos (show nI 7 = 7 from rfl), rx_0_6 h.rx, p_ob, w1, p_cl, y1, p_cl]
        exact ⟨_, s, t, rfl, rfl, h.inv.sc (sxF_of w2) (smF_of y2)⟩
    · rw [if_neg (show ¬ a2 = 0 from hj 0 (by omega)), if_neg (show ¬ a2 = 1 from hj 1 (by omega)), if_neg (show ¬ a2 = 2 from hj 2 (by omega)), if_neg (show ¬ a2 = 3 from hj 3 (by omega)), if_neg (show ¬ a2 = 4 from hj 4 (by omega)), if_neg (show ¬ a2 = 5 from hj 5 (by omega)), if_neg (show ¬ a2 = 6 from hj 6 (by omega)), if_neg (show ¬ a2 = 7 from hj 7 (by omega)), if_neg (show ¬ a2 = 3 from hj 3 (by omega)), if_neg (show ¬ a2 = 4 from hj 4 (by omega)), if_neg (show ¬ a2 = 5 from hj 5 (by omega)), if_neg (show ¬ a2 = 6 from hj 6 (by omega)), if_neg (show ¬ a2 = 7 from hj 7 (by omega)), show v_X12_isIn a2 0 2 = 0 from v_in0 (b := 2) (by omega) (fun j q => hj j (by omega)), if_pos rfl]
      exact h.no
  · rw [x_thereN h.hx h.hb hN, p_cl, if_pos rfl, m_persN h.rm h.hm b4 hN, p_cl, if_pos rfl]
    exact h.no
theorem o_tells (hn : 8000 ≤ n) (a1 a2 : Int32) : mm_ok2 (Inv n) (fun σ => f_X11_tells mm_kx n 0 a1 a2 σ) (fun τ => f_X12_tells mm_km n 0 a1 a2 τ) := by
  rintro σ τ ⟨D, H, S, Dk, Hk, Sk, Mt, C, ln, by', h⟩
  have h : II n D H S Dk Hk Sk Mt C ln by' σ τ := h
  have b4 := h.hb.1.2.2.2.2
  show ∃ r σ' τ', f_X11_tells mm_kx n 0 a1 a2 σ = _ ∧ f_X12_tells mm_km n 0 a1 a2 τ = _ ∧ _
  unfold f_X11_tells f_X12_tells
  rw [rx_0_0 h.rx, p_ob, rx_1_1 h.rx, p_ob]
  rcases pers H b4 a1 with ⟨p, hp, rfl⟩ | hN
  · rw [x_thereP h.hx h.hb hp, p_cl, if_neg n10, m_pers h.rm h.hm b4 hp, p_cl, if_neg n10, v_wantM]
    rcases v_want (x := a2) with ⟨w, hw, rfl, ev⟩ | ev
    · obtain ⟨s, w1, w2⟩ := x_saysNext h.ex h.hx HL_8 (by omega) h.hb hp hw
      obtain ⟨t, y1, y2⟩ := m_tellsOf (by omega) h.wx h.em (fun hr => by rw [hr]; rfl) h.ru h.hm h.hb hp hw
      rw [ev, if_neg n10, if_neg n10, rx_0_5 h.rx, p_ob, rx_0_6 h.rx, p_ob, x_ruling h.ex, p_cl, rx_0_0 h.rx, p_ob, rx_1_1 h.rx, p_ob, w1, p_cl, y1, p_cl]
      exact ⟨_, s, t, rfl, rfl, h.inv.sc (sxF_of w2) (smF_of y2)⟩
    · rw [ev, if_pos rfl, if_pos rfl]
      exact h.no
  · rw [x_thereN h.hx h.hb hN, p_cl, if_pos rfl, m_persN h.rm h.hm b4 hN, p_cl, if_pos rfl]
    exact h.no
/-- who waits -/
def wtN (H : Nat → Nat → Nat) : Nat → Nat → Nat → Nat
  | 0, _, acc => acc
  | m + 1, i, acc => wtN H m (i + 1) (if i < H 8 4 ∧ H 1 i = 0 then acc ||| 2 ^ i else acc)
theorem wtN_ge {H : Nat → Nat → Nat} : ∀ (m i acc : Nat), H 8 4 ≤ i → wtN H m i acc = acc := by
  intro m
  induction m with
  | zero => intro i acc _; rfl
  | succ m ih =>
    intro i acc hi
    unfold wtN
    rw [if_neg (by omega)]
    exact ih (i + 1) acc (by omega)
theorem x_allW (h : HX 8 H σ) (hb : HB H) (hn : 10 ≤ n) (k : Int32 → mm_M → Option (Int32 × mm_M)) : ∀ (m i acc f : Nat), m + i = 5 → m < f → L_X4_allWaiting_4 mm_kx n 8 k f (nI acc) (nI i) σ = k (nI (wtN H m i acc)) σ := by
  intro m
  induction m with
  | zero =>
    intro i acc f hi hf
    obtain ⟨f, rfl⟩ : ∃ f', f = f' + 1 := ⟨f - 1, by omega⟩
    rw [L_X4_allWaiting_4_s, show i = 5 by omega, if_pos (by decide)]
    rfl
  | succ m ih =>
    intro i acc f hi hf
    obtain ⟨f, rfl⟩ : ∃ f', f = f' + 1 := ⟨f - 1, by omega⟩
    rw [L_X4_allWaiting_4_s, if_neg (show ¬ (5 : Int32) ≤ nI i from nI_ge (b := 5) (by omega) (by omega))]
    simp only [p_bd]
    unfold wtN
    by_cases hp : i < H 8 4
    · rw [x_waitP h HL_8 hb hp, p_cl, nI_1]
      by_cases hw : H 1 i = 0
      · rw [if_pos hw, if_neg n10, if_pos ⟨hp, hw⟩, p_shl (by omega), p_or]
        exact ih (i + 1) _ f (by omega) (by omega)
      · rw [if_neg hw, if_pos rfl, if_neg (fun q => hw q.2)]
        exact ih (i + 1) _ f (by omega) (by omega)
    · rw [x_waitN h hb (fun q hq e => by have := (nI_eq (a := i) (b := q) (by omega) (by have := hb.1.2.2.2.2; omega)).mp e; omega), p_cl, if_pos rfl, nI_1, if_neg (fun q => hp q.1)]
      exact ih (i + 1) _ f (by omega) (by omega)
theorem m_allW (hr : ms_Rf τ) (h : HM 1 H τ) (hb : HB H) (hn : 10 ≤ n) (k : Int32 → mm_M → Option (Int32 × mm_M)) : ∀ (m i acc f : Nat), m + i = 5 → m < f → i ≤ H 8 4 → L_X12_waiting_4 mm_km n 0 k f (nI acc) (nI i) τ = k (nI (wtN H m i acc)) τ := by
  have b4 := hb.1.2.2.2.2
  intro m
  induction m with
  | zero =>
    intro i acc f hi hf h4
    obtain ⟨f, rfl⟩ : ∃ f', f = f' + 1 := ⟨f - 1, by omega⟩
    rw [L_X12_waiting_4_s, rm_0 hr, p_ob, im_0, show (0 : Int32).toNatClampNeg = 0 from rfl, h.2.1, if_pos (nI_le (by omega) (by omega))]
    rfl
  | succ m ih =>
    intro i acc f hi hf h4
    obtain ⟨f, rfl⟩ : ∃ f', f = f' + 1 := ⟨f - 1, by omega⟩
    rw [L_X12_waiting_4_s, rm_0 hr, p_ob, im_0, show (0 : Int32).toNatClampNeg = 0 from rfl, h.2.1]
    by_cases hp : i < H 8 4
    · rw [if_neg (nI_ge hp (by omega)), m_waitP hr h hb hp, p_cl]
      simp only [p_bd]
      unfold wtN
      rw [nI_1]
      by_cases hw : H 1 i = 0
      · rw [if_pos hw, if_neg n10, if_pos ⟨hp, hw⟩, p_shl (by omega), p_or]
        exact ih (i + 1) _ f (by omega) (by omega) (by omega)
      · rw [if_neg hw, if_pos rfl, if_neg (fun q => hw q.2), p_or0]
        exact ih (i + 1) _ f (by omega) (by omega) (by omega)
    · rw [if_pos (nI_le (by omega) (by omega)), wtN_ge _ _ _ (by omega)]
theorem o_is (hn : 8000 ≤ n) (a1 : Int32) : mm_ok2 (Inv n) (fun σ => f_X11_is mm_kx n 0 a1 σ) (fun τ => f_X12_is mm_km n 0 a1 τ) := by
  rintro σ τ ⟨D, H, S, Dk, Hk, Sk, Mt, C, ln, by', h⟩
  have h : II n D H S Dk Hk Sk Mt C ln by' σ τ := h
  show ∃ r σ' τ', f_X11_is mm_kx n 0 a1 σ = _ ∧ f_X12_is mm_km n 0 a1 τ = _ ∧ _
  unfold f_X11_is f_X12_is
  simp only [rx_0_0 h.rx, rx_1_1 h.rx, rm_0 h.rm, p_ob]
  rcases p_split a1 4 (by omega) with ⟨j, hj, rfl⟩ | hj
  · have hj : j = 0 ∨ j = 1 ∨ j = 2 ∨ j = 3 := by omega
    rcases hj with rfl | rfl | rfl | rfl
    · rw [if_pos (show nI 0 = 0 from rfl), show v_X12_isIn (nI 0) 0 1 = 1 by decide, if_neg n10, show (5 : Int32) + nI 0 = 5 from rfl, im_5, h.hx.s0, show (5 : Int32).toNatClampNeg = 5 from rfl, h.hm.d]
      exact h.no
    · rw [if_neg (show ¬ nI 1 = 0 by decide), if_pos (show nI 1 = 1 from rfl), show v_X12_isIn (nI 1) 0 1 = 1 by decide, if_neg n10, show (5 : Int32) + nI 1 = 6 from rfl, im_6, h.hx.s1, show (6 : Int32).toNatClampNeg = 6 from rfl, h.hm.l]
      exact h.no
    · rw [if_neg (show ¬ nI 2 = 0 by decide), if_neg (show ¬ nI 2 = 1 by decide), if_pos (show nI 2 = 2 from rfl), show v_X12_isIn (nI 2) 0 1 = 0 by decide, if_pos rfl, if_pos (show nI 2 = 2 from rfl)]
      unfold f_X4_allWaiting f_X12_waiting
      have e1 := x_allW (n := n) h.hx h.hb (by omega) (fun (x6 : Int32) (s7 : mm_M) => (some (x6, s7))) 5 0 0 n rfl (by omega)
      have e2 := m_allW (n := n) h.rm h.hm h.hb (by omega) (fun (x6 : Int32) (s7 : mm_M) => (some (x6, s7))) 5 0 0 n rfl (by omega) (by omega)
      have e1 : L_X4_allWaiting_4 mm_kx n 8 _ n 0 0 σ = _ := e1
      have e2 : L_X12_waiting_4 mm_km n 0 _ n 0 0 τ = _ := e2
      rw [e1, e2, p_cl, p_cl]
      exact h.no
    · rw [if_neg (show ¬ nI 3 = 0 by decide), if_neg (show ¬ nI 3 = 1 by decide), if_neg (show ¬ nI 3 = 2 by decide), if_pos (show nI 3 = 3 from rfl), show v_X12_isIn (nI 3) 0 1 = 0 by decide, if_pos rfl, if_neg (show ¬ nI 3 = 2 by decide), if_pos (show nI 3 = 3 from rfl), im_7, h.hx.s2, show (7 : Int32).toNatClampNeg = 7 from rfl, h.hm.g]
      exact h.no
  · rw [if_neg (show ¬ a1 = 0 from hj 0 (by omega)), if_neg (show ¬ a1 = 1 from hj 1 (by omega)), if_neg (show ¬ a1 = 2 from hj 2 (by omega)), if_neg (show ¬ a1 = 3 from hj 3 (by omega)), show v_X12_isIn a1 0 1 = 0 from v_in0 (b := 1) (by omega) (fun j q => hj j (by omega)), if_pos rfl, if_neg (show ¬ a1 = 2 from hj 2 (by omega)), if_neg (show ¬ a1 = 3 from hj 3 (by omega))]
    exact h.no
/-- an entry of the book -/
def bkE (v j : Nat) : Nat := if j = 0 then v / 256 else if j = 1 then v / 32 % 8 else if j = 2 then v / 2 % 16 else v % 2
theorem x_entry (h : HX 8 H σ) (hb : HB H) {i j : Nat} (hi : i < H 8 3) (hj : j < 4) : f_X4_entry mm_kx n 8 (nI i) (nI j) σ = some (nI (bkE (H 9 i) j), σ) := by
  have b3 := hb.1.2.2.2.1
  obtain ⟨v1, v2, v3⟩ := hb.2.2 i hi
  have r := h.2.2.2 i hi
  have r : mm_I σ 15 i = _ := r
  have hv : H 9 i < 2560000 := by omega
  have bx : bkx (H 9 i) < 2147483648 := by unfold bkx; omega
  unfold f_X4_entry
  rw [if_neg (nI_pos (by omega)), h.s3, if_neg (nI_ge hi (by omega)), if_pos (show nI i < 30 from nI_lt (b := 30) (by omega) (by omega)), h.r6, p_ob, s_ix (by rw [HL_8.l7]; omega) (by rw [HL_8.l7]; omega), p_bd, s_cl (by omega), r]
  have hj : j = 0 ∨ j = 1 ∨ j = 2 ∨ j = 3 := by omega
  rcases hj with rfl | rfl | rfl | rfl
  · rw [if_pos (show nI 0 = 0 from rfl), ck_120, show (120 : Int32) = nI 120 from rfl, s_dv bx (by omega) (by omega)]
    have : bkx (H 9 i) / 120 = bkE (H 9 i) 0 := by unfold bkx; show _ = H 9 i / 256; omega
    rw [this]
  · rw [if_neg (show ¬ nI 1 = 0 by decide), if_pos (show nI 1 = 1 from rfl), ck_24, ck_5, show (24 : Int32) = nI 24 from rfl, s_dv bx (by omega) (by omega), show (5 : Int32) = nI 5 from rfl, s_rm (by omega) (by omega) (by omega)]
    have : bkx (H 9 i) / 24 % 5 = bkE (H 9 i) 1 := by unfold bkx; show _ = H 9 i / 32 % 8; omega
    rw [this]
  · rw [if_neg (show ¬ nI 2 = 0 by decide), if_neg (show ¬ nI 2 = 1 by decide), if_pos (show nI 2 = 2 from rfl), ck_2, ck_12, show (2 : Int32) = nI 2 from rfl, s_dv bx (by omega) (by omega), show (12 : Int32) = nI 12 from rfl, s_rm (by omega) (by omega) (by omega)]
    have : bkx (H 9 i) / 2 % 12 = bkE (H 9 i) 2 := by unfold bkx; show _ = H 9 i / 2 % 16; omega
    rw [this]
  · rw [if_neg (show ¬ nI 3 = 0 by decide), if_neg (show ¬ nI 3 = 1 by decide), if_neg (show ¬ nI 3 = 2 by decide), if_pos (show nI 3 = 3 from rfl), ck_2, show (2 : Int32) = nI 2 from rfl, s_rm bx (by omega) (by omega)]
    have : bkx (H 9 i) % 2 = bkE (H 9 i) 3 := by unfold bkx; show _ = H 9 i % 2; omega
    rw [this]
theorem ck_256 {α : Type} (F : Option α) : mm_ck (decide (¬ (256 : Int32) = 0)) F = F := s_nz (k := 256) (by decide) (by decide)
theorem ck_32 {α : Type} (F : Option α) : mm_ck (decide (¬ (32 : Int32) = 0)) F = F := s_nz (k := 32) (by decide) (by decide)
theorem ck_8 {α : Type} (F : Option α) : mm_ck (decide (¬ (8 : Int32) = 0)) F = F := s_nz (k := 8) (by decide) (by decide)
theorem ck_16 {α : Type} (F : Option α) : mm_ck (decide (¬ (16 : Int32) = 0)) F = F := s_nz (k := 16) (by decide) (by decide)
theorem m_entry (hr : ms_Rf τ) (h : HMb 1 H τ) (hb : HB H) {i j : Nat} (hi : i < H 8 3) (hj : j < 4) : f_X12_entry mm_km n 0 (nI i) (nI j) τ = some (nI (bkE (H 9 i) j), τ) := by
  have b3 := hb.1.2.2.2.1
  obtain ⟨v1, v2, v3⟩ := hb.2.2 i hi
  have r := h.2 i hi
  have hv : H 9 i < 2560000 := by omega
  unfold f_X12_entry
  rw [rm_0 hr, p_ob, show (2054 : Int32) + nI i = nI (2054 + i) from nI_add 2054 i, s_ix (by rw [lm_1]; omega) (by rw [lm_1]; decide), p_bd, s_cl (by omega), r]
  have hj : j = 0 ∨ j = 1 ∨ j = 2 ∨ j = 3 := by omega
  rcases hj with rfl | rfl | rfl | rfl
  · rw [if_pos (show nI 0 = 0 from rfl), ck_256, show (256 : Int32) = nI 256 from rfl, s_dv (by omega) (by omega) (by omega)]
    rfl
  · rw [if_neg (show ¬ nI 1 = 0 by decide), if_pos (show nI 1 = 1 from rfl), ck_32, ck_8, show (32 : Int32) = nI 32 from rfl, s_dv (by omega) (by omega) (by omega), show (8 : Int32) = nI 8 from rfl, s_rm (by omega) (by omega) (by omega)]
    rfl
  · rw [if_neg (show ¬ nI 2 = 0 by decide), if_neg (show ¬ nI 2 = 1 by decide), if_pos (show nI 2 = 2 from rfl), ck_2, ck_16, show (2 : Int32) = nI 2 from rfl, s_dv (by omega) (by omega) (by omega), show (16 : Int32) = nI 16 from rfl, s_rm (by omega) (by omega) (by omega)]
    rfl
  · rw [if_neg (show ¬ nI 3 = 0 by decide), if_neg (show ¬ nI 3 = 1 by decide), if_neg (show ¬ nI 3 = 2 by decide), ck_2, show (2 : Int32) = nI 2 from rfl, s_rm (by omega) (by omega) (by omega)]
    rfl
theorem m_ind {x : Int32} {k : Nat} (hk : k ≤ 30) : (∃ i, i < k ∧ x = nI i ∧ v_X12_isIn x 0 (nI k - 1) = 1) ∨ ((∀ i, i < k → x ≠ nI i) ∧ v_X12_isIn x 0 (nI k - 1) = 0) := by
  rcases p_split x k (by omega) with ⟨i, hi, rfl⟩ | hi
  · left
    refine ⟨i, hi, rfl, ?_⟩
    rw [show (1 : Int32) = nI 1 from rfl, pk_sub (by omega)]
    exact v_in1 (by omega) (by omega)
  · right
    refine ⟨hi, ?_⟩
    unfold v_X12_isIn
    rcases p_num x with h0 | ⟨j, hj, rfl⟩
    · rw [if_pos h0]
    · have hj2 : k ≤ j := Nat.le_of_not_lt (fun q => hi j q rfl)
      rw [if_neg (nI_pos hj), if_pos]
      rw [← iI_nat, ← iI_nat, show (1 : Int32) = iI 1 from rfl, iI_sub, iI_lt (by omega) (by omega) (by omega) (by omega)]
      omega
theorem x_entryN (h : HX 8 H σ) (hb : HB H) {x y : Int32} (hi : ∀ i, i < H 8 3 → x ≠ nI i) : f_X4_entry mm_kx n 8 x y σ = some (-2, σ) := by
  have b3 := hb.1.2.2.2.1
  unfold f_X4_entry
  rcases p_num x with h0 | ⟨j, hj, rfl⟩
  · rw [if_pos h0]
  · have hj2 : H 8 3 ≤ j := Nat.le_of_not_lt (fun q => hi j q rfl)
    rw [if_neg (nI_pos hj), h.s3, if_pos (nI_le hj2 hj)]
theorem x_entryM (h : HX 8 H σ) (hb : HB H) {i : Nat} {y : Int32} (hi : i < H 8 3) (hy : ∀ j, j < 4 → y ≠ nI j) : f_X4_entry mm_kx n 8 (nI i) y σ = some (-2, σ) := by
  have b3 := hb.1.2.2.2.1
  have r := h.2.2.2 i hi
  have r : mm_I σ 15 i = _ := r
  unfold f_X4_entry
  rw [if_neg (nI_pos (by omega)), h.s3, if_neg (nI_ge hi (by omega)), if_pos (show nI i < 30 from nI_lt (b := 30) (by omega) (by omega)), h.r6, p_ob, s_ix (by rw [HL_8.l7]; omega) (by rw [HL_8.l7]; omega), p_bd, if_neg (show ¬ y = 0 from hy 0 (by omega)), if_neg (show ¬ y = 1 from hy 1 (by omega)), if_neg (show ¬ y = 2 from hy 2 (by omega)), if_neg (show ¬ y = 3 from hy 3 (by omega))]
theorem o_book (hn : 8000 ≤ n) (a1 a2 : Int32) : mm_ok2 (Inv n) (fun σ => f_X11_book mm_kx n 0 a1 a2 σ) (fun τ => f_X12_book mm_km n 0 a1 a2 τ) := by
  rintro σ τ ⟨D, H, S, Dk, Hk, Sk, Mt, C, ln, by', h⟩
  have h : II n D H S Dk Hk Sk Mt C ln by' σ τ := h
  have b3 := h.hb.1.2.2.2.1
  show ∃ r σ' τ', f_X11_book mm_kx n 0 a1 a2 σ = _ ∧ f_X12_book mm_km n 0 a1 a2 τ = _ ∧ _
  unfold f_X11_book f_X12_book
  simp only [rx_0_0 h.rx, rx_1_1 h.rx, rm_0 h.rm, p_ob]
  rw [im_8, im_8, show (8 : Int32).toNatClampNeg = 8 from rfl, h.hmb.1, h.hx.s3]
  by_cases h1 : a1 = -1
  · rw [if_pos h1, if_pos h1]
    exact h.no
  · rw [if_neg h1, if_neg h1]
    rcases m_ind (x := a1) b3 with ⟨i, hi, rfl, e⟩ | ⟨hi, e⟩
    · rw [e, if_neg n10]
      rcases p_split a2 4 (by omega) with ⟨j, hj, rfl⟩ | hj
      · rw [x_entry h.hx h.hb hi hj, p_cl, show v_X12_isIn (nI j) 0 3 = 1 from v_in1 (b := 3) (by omega) (by omega), if_neg n10, m_entry h.rm h.hmb h.hb hi hj, p_cl]
        exact h.no
      · rw [x_entryM h.hx h.hb hi hj, p_cl, show v_X12_isIn a2 0 3 = 0 from v_in0 (b := 3) (by omega) hj, if_pos rfl]
        exact h.no
    · rw [e, if_pos rfl, x_entryN h.hx h.hb hi, p_cl]
      exact h.no
end WS
