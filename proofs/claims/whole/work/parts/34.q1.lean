/-! questions about wants alone -/
def WX (g pn : Nat → Nat) (σ : mm_M) : Prop := xs_Rf σ ∧ (∀ w, w < 12 → mm_I σ 3 w = nI (pn w)) ∧ (∀ w, w < 12 → pn w ≤ 99) ∧ (∀ w, w < 12 → mm_I σ 4 w = nI (g w)) ∧ (∀ w, w < 12 → g w < 4096) ∧ (∀ w, w < 12 → ∀ j, (g w).testBit j = true → w < j) ∧ xl_P g 0 σ
def WM (g pn : Nat → Nat) (τ : mm_M) : Prop := ms_Rf τ ∧ (∀ w, w < 12 → mm_I τ 1 (49 + w) = nI (pn w)) ∧ (∀ w, w < 12 → mm_I τ 1 (61 + w) = nI (g w))
theorem WM.go {g pn : Nat → Nat} {τ τ' : mm_M} {S : List Nat} (h : WM g pn τ) (e : eqx τ τ' S) (hS : 1 ∉ S) : WM g pn τ' := ⟨e.ms h.1, fun w hw => (e.2 1 hS _).trans (h.2.1 w hw), fun w hw => (e.2 1 hS _).trans (h.2.2 w hw)⟩
/-- a row of turns -/
def itr (step : Nat → Nat → Nat) : Nat → Nat → Nat → Nat
  | 0, _, acc => acc
  | m + 1, i, acc => itr step m (i + 1) (step i acc)
theorem itr_congr {a b : Nat → Nat → Nat} (P : Nat → Prop) : ∀ (m i acc : Nat), P acc → (∀ j x, i ≤ j → j < i + m → P x → a j x = b j x ∧ P (a j x)) → itr a m i acc = itr b m i acc := by
  intro m
  induction m with
  | zero => intro i acc _ _; rfl
  | succ m ih =>
    intro i acc hP h
    unfold itr
    obtain ⟨h1, h2⟩ := h i acc (by omega) (by omega) hP
    rw [← h1]
    exact ih (i + 1) _ h2 (fun j x h3 h4 => h j x (by omega) (by omega))
theorem loop_up {β : Type} {Lf : Nat → Int32 → Int32 → mm_M → Option β} {k : Int32 → mm_M → Option β} {s : mm_M} {step : Nat → Nat → Nat} {N : Nat} (P : Nat → Prop) (h1 : ∀ f i acc, i < N → P acc → Lf (f + 1) (nI acc) (nI i) s = Lf f (nI (step i acc)) (nI (i + 1)) s ∧ P (step i acc)) (h2 : ∀ f acc, P acc → Lf (f + 1) (nI acc) (nI N) s = k (nI acc) s) : ∀ (m i acc f : Nat), m + i = N → m < f → P acc → Lf f (nI acc) (nI i) s = k (nI (itr step m i acc)) s ∧ P (itr step m i acc) := by
  intro m
  induction m with
  | zero =>
    intro i acc f hi hf hP
    obtain ⟨f, rfl⟩ : ∃ f', f = f' + 1 := ⟨f - 1, by omega⟩
    rw [show i = N by omega]
    exact ⟨h2 f acc hP, hP⟩
  | succ m ih =>
    intro i acc f hi hf hP
    obtain ⟨f, rfl⟩ : ∃ f', f = f' + 1 := ⟨f - 1, by omega⟩
    obtain ⟨q1, q2⟩ := h1 f i acc (by omega) hP
    rw [q1]
    exact ih (i + 1) _ f (by omega) (by omega) q2
theorem le12 : (12 : Int32) ≤ nI 12 := by decide
theorem or12 {a b : Nat} (ha : a < 4096) (hb : b < 4096) : a ||| b < 4096 := Nat.or_lt_two_pow (n := 12) ha hb
theorem and12 {a : Nat} (b : Nat) (ha : a < 4096) : a &&& b < 4096 := Nat.lt_of_le_of_lt Nat.and_le_left ha
theorem nd12 {a : Nat} (b : Nat) (ha : a < 4096) : nd a b < 4096 := Nat.xor_lt_two_pow (n := 12) ha (and12 b ha)
theorem pow12 {i : Nat} (h : i < 12) : 2 ^ i < 4096 := Nat.pow_lt_pow_right (by decide) (show i < 12 from h)
theorem p_or0 (a : Nat) : nI a ||| 0 = nI a := by
  rw [show (0 : Int32) = nI 0 from rfl, p_or, Nat.or_zero]
theorem nI_z {a : Nat} (h : a < 2 ^ 31) : nI a = 0 ↔ a = 0 := by
  rw [show (0 : Int32) = nI 0 from rfl]
  exact nI_eq h (by decide)
section QQ
variable {n : Nat} {g pn : Nat → Nat} {σ τ : mm_M}
theorem m_low (hn : 13 ≤ n) (hx : WX g pn σ) (hm : WM g pn τ) : ∃ τ', f_X12_layLows mm_km n 0 τ = some τ' ∧ eqx τ τ' [4, 5] ∧ ml_P g 0 τ' ∧ WM g pn τ' := by
  obtain ⟨τ', h1, h2, h3⟩ := m_layLows hn hx.2.2.2.2.1 hm.1 hm.2.2
  exact ⟨τ', h1, h2, h3, hm.go h2 (by decide)⟩
theorem q_plain (hn : 13 ≤ n) (hx : WX g pn σ) (hm : WM g pn τ) : ∃ r, f_X11_plain mm_kx n 0 σ = some (r, σ) ∧ f_X12_plain mm_km n 0 τ = some (r, τ) := by
  obtain ⟨rf, hp, hp9, hh, hg, -, hP⟩ := hx
  refine ⟨nI (itr (fun i acc => if g i = 0 then acc ||| 2 ^ i else acc) 12 0 0), ?_, ?_⟩
  · unfold f_X11_plain
    refine (loop_up (Lf := L_X11_plain_4 mm_kx n 0 (fun (x : Int32) (s : mm_M) => (some (x, s) : Option (Int32 × mm_M)))) (k := (fun (x : Int32) (s : mm_M) => (some (x, s) : Option (Int32 × mm_M)))) (s := σ) (step := fun i acc => if g i = 0 then acc ||| 2 ^ i else acc) (fun a => a < 4096) (fun f i acc hi ha => ?_) (fun f acc ha => ?_) 12 0 0 n rfl (by omega) (by decide)).1
    · rw [L_X11_plain_4_s, if_neg (p_ge12 hi)]
      simp only [xs_r 0 rf rfl, xs_r 11 rf rfl, xs_r 20 rf rfl, p_ob, p_bd, show mm_ln (mm_kx 4) = 12 from rfl, p_ix hi (by decide : 12 < 2 ^ 31), p_ck]
      rw [nI_clamp (n := i) (by omega), hh i hi, nI_1, p_shl (by omega), p_or]
      have hgi := hg i hi
      by_cases h0 : g i = 0
      · rw [if_pos ((nI_z (by omega)).mpr h0), if_pos h0]
        exact ⟨rfl, or12 ha (pow12 hi)⟩
      · rw [if_neg (fun q => h0 ((nI_z (by omega)).mp q)), if_neg h0]
        exact ⟨rfl, ha⟩
    · rw [L_X11_plain_4_s, if_pos le12]
  · unfold f_X12_plain
    refine (loop_up (Lf := L_X12_plain_4 mm_km n 0 (fun (x : Int32) (s : mm_M) => (some (x, s) : Option (Int32 × mm_M)))) (k := (fun (x : Int32) (s : mm_M) => (some (x, s) : Option (Int32 × mm_M)))) (s := τ) (step := fun i acc => if g i = 0 then acc ||| 2 ^ i else acc) (fun a => a < 4096) (fun f i acc hi ha => ?_) (fun f acc ha => ?_) 12 0 0 n rfl (by omega) (by decide)).1
    · rw [L_X12_plain_4_s, if_neg (p_ge12 hi), p_61 hi]
      simp only [ms_r 0 hm.1 rfl, p_ob, p_bd, show mm_ln (mm_km 1) = 2084 from rfl, p_ix (show 61 + i < 2084 by omega) (by decide : 2084 < 2 ^ 31), p_ck]
      rw [nI_clamp (n := 61 + i) (by omega), hm.2.2 i hi, nI_1, p_shl (by omega), p_or, p_or0]
      have hgi := hg i hi
      by_cases h0 : g i = 0
      · rw [if_pos ((nI_z (by omega)).mpr h0), if_pos h0]
        exact ⟨rfl, or12 ha (pow12 hi)⟩
      · rw [if_neg (fun q => h0 ((nI_z (by omega)).mp q)), if_neg h0]
        exact ⟨rfl, ha⟩
    · rw [L_X12_plain_4_s, if_pos le12]
theorem nd_or (a b c : Nat) : nd (nd a b) c = nd a (b ||| c) := by
  apply Nat.eq_of_testBit_eq
  intro i
  rw [nd_bit, nd_bit, nd_bit, Nat.testBit_or]
  cases a.testBit i <;> cases b.testBit i <;> cases c.testBit i <;> rfl
theorem itr_nd (f : Nat → Nat) (x : Nat) : ∀ (m i a : Nat), itr (fun i acc => nd acc (f i)) m i (nd x a) = nd x (itr (fun i acc => acc ||| f i) m i a) := by
  intro m
  induction m with
  | zero => intro i a; rfl
  | succ m ih =>
    intro i a
    unfold itr
    rw [nd_or]
    exact ih (i + 1) _
theorem q_loose (hn : 13 ≤ n) (hx : WX g pn σ) (hm : WM g pn τ) : ∃ r, f_X11_loose mm_kx n 0 σ = some (r, σ) ∧ f_X12_loose mm_km n 0 τ = some (r, τ) := by
  obtain ⟨rf, hp, hp9, hh, hg, -, hP⟩ := hx
  refine ⟨nI (nd 4095 (itr (fun i acc => acc ||| g i) 12 0 0)), ?_, ?_⟩
  · unfold f_X11_loose
    rw [show (0 : Int32) = nI 0 from rfl]
    rw [(loop_up (Lf := L_X11_loose_4 mm_kx n 0 (fun (x : Int32) (s : mm_M) => (some (4095 &&& (x ^^^ (-1)), s) : Option (Int32 × mm_M)))) (k := (fun (x : Int32) (s : mm_M) => (some (4095 &&& (x ^^^ (-1)), s) : Option (Int32 × mm_M)))) (s := σ) (step := fun i acc => acc ||| g i) (fun a => a < 4096) (fun f i acc hi ha => ?_) (fun f acc ha => ?_) 12 0 0 n rfl (by omega) (by decide)).1]
    · rw [show (4095 : Int32) = nI 4095 from rfl, p_nd _ (by decide)]
    · rw [L_X11_loose_4_s, if_neg (p_ge12 hi)]
      simp only [xs_r 0 rf rfl, xs_r 11 rf rfl, xs_r 20 rf rfl, p_ob, p_bd, show mm_ln (mm_kx 4) = 12 from rfl, p_ix hi (by decide : 12 < 2 ^ 31), p_ck]
      rw [nI_clamp (n := i) (by omega), hh i hi, nI_1, p_or]
      exact ⟨rfl, or12 ha (hg i hi)⟩
    · rw [L_X11_loose_4_s, if_pos le12]
  · unfold f_X12_loose
    rw [show (4095 : Int32) = nI (nd 4095 0) from rfl, show (0 : Int32) = nI 0 from rfl]
    rw [(loop_up (Lf := L_X12_loose_6 mm_km n 0 (fun (x : Int32) (s : mm_M) => (some (x, s) : Option (Int32 × mm_M)))) (k := (fun (x : Int32) (s : mm_M) => (some (x, s) : Option (Int32 × mm_M)))) (s := τ) (step := fun i acc => nd acc (g i)) (fun a => a < 4096) (fun f i acc hi ha => ?_) (fun f acc ha => ?_) 12 0 (nd 4095 0) n rfl (by omega) (by decide)).1]
    · rw [itr_nd]
    · rw [L_X12_loose_6_s, if_neg (p_ge12 hi), p_61 hi]
      simp only [ms_r 0 hm.1 rfl, p_ob, p_bd, show mm_ln (mm_km 1) = 2084 from rfl, p_ix (show 61 + i < 2084 by omega) (by decide : 2084 < 2 ^ 31), p_ck]
      rw [nI_clamp (n := 61 + i) (by omega), hm.2.2 i hi, nI_1, p_nd _ (by omega)]
      exact ⟨rfl, nd12 _ ha⟩
    · rw [L_X12_loose_6_s, if_pos le12]
theorem q_levels (hn : 13 ≤ n) (hx : WX g pn σ) (hm : WM g pn τ) : ∃ r τ', f_X11_levels mm_kx n 0 σ = some (r, σ) ∧ f_X12_levels mm_km n 0 τ = some (r, τ') ∧ eqx τ τ' [4, 5] := by
  obtain ⟨τ', e1, e2, e3, hm⟩ := m_low hn hx hm
  obtain ⟨rf, hp, hp9, hh, hg, -, hP⟩ := hx
  refine ⟨nI (itr (fun i acc => max acc (dep g i + 1)) 12 0 0), τ', ?_, ?_, e2⟩
  · unfold f_X11_levels
    refine (loop_up (Lf := L_X11_levels_4 mm_kx n 0 (fun (x : Int32) (s : mm_M) => (some (x, s) : Option (Int32 × mm_M)))) (k := (fun (x : Int32) (s : mm_M) => (some (x, s) : Option (Int32 × mm_M)))) (s := σ) (step := fun i acc => max acc (dep g i + 1)) (fun a => a < 100) (fun f i acc hi ha => ?_) (fun f acc ha => ?_) 12 0 0 n rfl (by omega) (by decide)).1
    · have hd := dep_le (g := g) 12 i hi (by omega)
      rw [L_X11_levels_4_s, if_neg (p_ge12 hi)]
      simp only [xs_r 0 rf rfl, xs_r 11 rf rfl, xs_r 23 rf rfl, p_ob, p_bd, show mm_ln (mm_kx 7) = 12 from rfl, p_ix hi (by decide : 12 < 2 ^ 31), p_ck]
      rw [nI_clamp (n := i) (by omega), (hP i (by omega) hi).2.2, nI_1, nI_1, p_mx (by omega) (by omega)]
      exact ⟨rfl, by omega⟩
    · rw [L_X11_levels_4_s, if_pos le12]
  · unfold f_X12_levels
    rw [e1, p_cv]
    refine (loop_up (Lf := L_X12_levels_8 mm_km n 0 (fun (x : Int32) (s : mm_M) => (some (x, s) : Option (Int32 × mm_M)))) (k := (fun (x : Int32) (s : mm_M) => (some (x, s) : Option (Int32 × mm_M)))) (s := τ') (step := fun i acc => max acc (dep g i + 1)) (fun a => a < 100) (fun f i acc hi ha => ?_) (fun f acc ha => ?_) 12 0 0 n rfl (by omega) (by decide)).1
    · have hd := dep_le (g := g) 12 i hi (by omega)
      rw [L_X12_levels_8_s, if_neg (p_ge12 hi)]
      simp only [ms_r 4 hm.1 rfl, p_ob, p_bd, show mm_ln (mm_km 5) = 12 from rfl, p_ix hi (by decide : 12 < 2 ^ 31), p_ck]
      rw [nI_clamp (n := i) (by omega), (e3 i (by omega) hi).2, nI_1, nI_1]
      by_cases hc : dep g i < acc
      · rw [if_pos (nI_lt hc (by omega)), Nat.max_eq_left (by omega)]
        exact ⟨rfl, ha⟩
      · rw [if_neg (nI_nlt (by omega) (by omega)), Nat.max_eq_right (by omega)]
        exact ⟨rfl, by omega⟩
    · rw [L_X12_levels_8_s, if_pos le12]
end QQ
