/-! chains: both -/
section CB
variable {n : Nat} {g h : Nat → Nat} {τ τ0 t : mm_M} {w : Nat} {A : Nat → Prop}
theorem BI.u {T : Nat} {rk q lf : Nat → Nat} {c x : Nat} (hM : MA g h A) (hw : w < 12) (b : BI g h w T rk q lf c) (hx : x < c) : q x < 12 ∧ (q x = w ∨ ∃ j, j < 12 ∧ T.testBit j = true ∧ h j = q x ∧ rk j + 1 = x) := by
  by_cases c0 : x = 0
  · rw [c0, b.2.2.1]
    exact ⟨hw, .inl rfl⟩
  · obtain ⟨j, j1, j2, j3, j4⟩ := b.2.2.2.2.2 x (by omega) hx
    have := (hM.1.1 j j1 trivial (b.2.2.2.1 j j1 j2).1).1
    exact ⟨by omega, .inr ⟨j, j1, j2, j4.symm, j3⟩⟩
theorem m_look (hn : 8000 ≤ n) (hr : ms_Rf τ0) (h61 : ∀ w, w < 12 → mm_I τ0 1 (61 + w) = nI (g w)) (hg : ∀ w, w < 12 → g w < 4096) (hM : MA g h A) (h12 : ∀ j, j < 12 → h j ≤ 12) (hA : ¬ A w) (hw : w < 12) {x u : Nat} (k : Int32 → mm_M → Option (Int32 × mm_M)) :
    ∀ m i f T rk q lf c t, i + m = 12 → m < f → BI g h w T rk q lf c → BS τ0 h lf q c t → x < c → q x = u → (∀ a, a < x → ∀ j, j < 12 → (g (q a)).testBit j = true → T.testBit j = true) → (∀ j, j < i → (g u).testBit j = true → T.testBit j = true) →
    OR' g τ0 h A w (L_X12_isOneMore_48 mm_km n 0 (nI w) (nI u) k f (nI c) (nI i) t) ∨ ∃ T' rk' q' lf' c' t', L_X12_isOneMore_48 mm_km n 0 (nI w) (nI u) k f (nI c) (nI i) t = k (nI c') t' ∧ BI g h w T' rk' q' lf' c' ∧ BS τ0 h lf' q' c' t' ∧ x < c' ∧ ∀ a, a < x + 1 → ∀ j, j < 12 → (g (q' a)).testBit j = true → T'.testBit j = true := by
  intro m
  induction m with
  | zero =>
    intro i f T rk q lf c t hi hf b s hx hu hp hpi
    obtain ⟨f, rfl⟩ : ∃ f', f = f' + 1 := ⟨f - 1, by omega⟩
    have : i = 12 := by omega
    subst this
    refine .inr ⟨T, rk, q, lf, c, t, by rw [L_X12_isOneMore_48_s]; exact if_pos (by decide), b, s, hx, fun a ha j hj he => ?_⟩
    by_cases c1 : a = x
    · rw [c1, hu] at he
      exact hpi j hj he
    · exact hp a (by omega) j hj he
  | succ m ih =>
    intro i f T rk q lf c t hi hf b s hx hu hp hpi
    obtain ⟨f, rfl⟩ : ∃ f', f = f' + 1 := ⟨f - 1, by omega⟩
    have bu := b.u hM hw hx
    rw [hu] at bu
    obtain ⟨u12, uc⟩ := bu
    have hr1 := s.1.ms hr
    have r1 : mm_I t 1 (61 + u) = nI (g u) := (s.1.2 1 (by decide) _).trans (h61 u u12)
    have gu := hg u u12
    have r15 := s.2.2.1 i (by omega)
    have i12 : i < 12 := by omega
    have n12 : ¬ (12 : Int32) ≤ nI i := by rw [show (12 : Int32) = nI 12 from rfl, s_le (by omega) (by omega)]; omega
    have i1 : nI i + 1 = nI (i + 1) := nI_add i 1
    have a61 : (61 : Int32) + nI u = nI (61 + u) := nI_add 61 u
    have T12 := b.1
    have pb := pc_bound T12
    by_cases c1 : (g u).testBit i = false
    · have e : L_X12_isOneMore_48 mm_km n 0 (nI w) (nI u) k (f + 1) (nI c) (nI i) t = L_X12_isOneMore_48 mm_km n 0 (nI w) (nI u) k f (nI c) (nI (i + 1)) t := by
        rw [L_X12_isOneMore_48_s, if_neg n12, i1, rm_0 hr1, p_ob, a61, lm_1, s_ix (by omega) (by decide), s_cl (by omega), r1]
        simp only [p_bd]
        rw [if_pos (by rw [show (0 : Int32) = nI 0 from rfl, s_hasM0 (by omega) (by omega)]; exact c1)]
      rw [e]
      exact ih (i + 1) f T rk q lf c t (by omega) (by omega) b s hx hu hp (fun j hj he => by
        by_cases hq : j = i
        · rw [hq, c1] at he; exact absurd he (by decide)
        · exact hpi j (by omega) he)
    · have c1' : (g u).testBit i = true := by cases hb : (g u).testBit i <;> simp_all
      have nh : ¬ v_X12_has (nI (g u)) (nI i) = 0 := by rw [show (0 : Int32) = nI 0 from rfl, s_hasM0 (by omega) (by omega)]; exact c1
      by_cases c2 : T.testBit i = true
      · have l := (b.2.2.2.1 i i12 c2).2.2.2.1
        have e : L_X12_isOneMore_48 mm_km n 0 (nI w) (nI u) k (f + 1) (nI c) (nI i) t = L_X12_isOneMore_48 mm_km n 0 (nI w) (nI u) k f (nI c) (nI (i + 1)) t := by
          rw [L_X12_isOneMore_48_s, if_neg n12, i1, rm_0 hr1, p_ob, a61, lm_1, s_ix (by omega) (by decide), s_cl (by omega), r1]
          simp only [p_bd]
          rw [if_neg nh, rm_31 hr1, p_ob, lm_15, s_ix i12 (by decide), s_cl (by omega), r15, if_neg (show ¬ hI (lf i) = -1 from fun z => by
            have := (hI_m (by omega)).mp z
            omega)]
        rw [e]
        exact ih (i + 1) f T rk q lf c t (by omega) (by omega) b s hx hu hp (fun j hj he => by
          by_cases hq : j = i
          · rw [hq]; exact c2
          · exact hpi j (by omega) he)
      · have c2' : T.testBit i = false := by cases hb : T.testBit i <;> simp_all
        have l := b.2.2.2.2.1 i i12 c2'
        have pcs := pc_set T12 i12 c2'
        have T1 : T ||| 2 ^ i < 4096 := or12 T12 (pow12 i12)
        have pb1 := pc_bound T1
        have cc := b.2.1
        have r14 := s.2.1 i i12
        have hh12 := h12 i i12
        have lf' : ∀ j, j < 12 → mm_I (mm_wI t 15 i (nI u)) 15 j = hI (up lf i u j) := fun j hj => by
          rw [p_II]
          by_cases hq : j = i
          · rw [if_pos ⟨rfl, hq⟩, hq, up_at, hI_lt u12]
          · rw [if_neg (fun z => hq z.2), up_ne hq]
            exact s.2.2.1 j hj
        have pre : L_X12_isOneMore_48 mm_km n 0 (nI w) (nI u) k (f + 1) (nI c) (nI i) t = if h i = 12 then mm_cv (f_X12_turn mm_km n 0 (nI i) (nI w) (mm_wI t 15 i (nI u))) (fun s40 => some (1, s40)) else L_X12_isOneMore_48 mm_km n 0 (nI w) (nI u) k f (nI (c + 1)) (nI (i + 1)) (mm_wI (mm_wI t 15 i (nI u)) 16 c (hI (h i))) := by
          rw [L_X12_isOneMore_48_s, if_neg n12, i1, rm_0 hr1, p_ob, a61, lm_1, s_ix (by omega) (by decide), s_cl (by omega), r1]
          simp only [p_bd]
          rw [if_neg nh, rm_31 hr1, p_ob, lm_15, s_ix i12 (by decide), s_cl (by omega), r15, l, if_pos (show hI 12 = -1 from rfl), p_ob, lm_15, s_ix i12 (by decide), p_RI, rm_30 hr1, p_ob, lm_14, s_ix i12 (by decide), p_IIn (by omega), r14]
          by_cases hq : h i = 12
          · rw [if_pos hq, if_pos (show hI (h i) = -1 by rw [hq]; rfl)]
          · rw [if_neg hq, if_neg (show ¬ hI (h i) = -1 from fun z => hq ((hI_m hh12).mp z)), p_RI, rm_32 hr1, p_ob, p_ob, lm_14, s_ix i12 (by decide), lm_16, s_ix (show c < 13 by omega) (by decide), s_cl (show c < 2147483648 by omega), p_IIn (by omega), r14, show nI c + 1 = nI (c + 1) from nI_add c 1]
        rw [pre]
        have bT : ∀ j, j < 12 → T.testBit j = true → j ≠ i := fun j _ tj z => by
          rw [z, c2'] at tj
          exact absurd tj (by decide)
        by_cases c5 : h i = 12
        · rw [if_pos c5]
          have lf12 : ∀ j, j < 12 → up lf i u j ≤ 12 := fun j hj => by
            by_cases hq : j = i
            · rw [hq, up_at]; omega
            · rw [up_ne hq]
              cases tj : T.testBit j with
              | true => have := (b.2.2.2.1 j hj tj).2.2.2.1; omega
              | false => rw [b.2.2.2.2.1 j hj tj]; exact Nat.le_refl _
          obtain ⟨t', h2, e1, e2, e3, e4, e5⟩ := m_turn (n := n) (lf := up lf i u) (rk := rk) (T := T) (h := h) (g := g) hn hr lf12 hA hw (fun j hj tj => (hM.2 _ (hM.1.1 j hj trivial (b.2.2.2.1 j hj tj).1).1).mp ⟨j, hj, trivial, rfl⟩) (fun j hj tj => by
              rw [up_ne (bT j hj tj)]
              have q := (b.2.2.2.1 j hj tj).2.2.2
              exact q) (pc T) i n h (mm_wI t 15 i (nI u)) i12 (by omega) (fun z => absurd z c2) (by rw [up_at]; exact u12) (by rw [up_at]; exact c1') (by
              rw [up_at]
              rcases uc with z | ⟨j, j1, j2, j3, j4⟩
              · exact .inl z
              · exact .inr ⟨j, j1, j2, j3, by omega⟩) (fun _ _ _ _ => rfl) h12 (hM.1.mono (fun _ _ => trivial)) (fun a ha => by
              rw [← hM.2 a ha]
              constructor
              · rintro ⟨j, j1, -, j3⟩
                exact ⟨j, j1, trivial, j3⟩
              · rintro ⟨j, j1, -, j3⟩
                exact ⟨j, j1, fun z => by rw [z, c5] at j3; omega, j3⟩) (s.1.wI (by decide) _ _) (fun j hj => (p_IIn (by omega)).trans (s.2.1 j hj)) lf'
          unfold f_X12_turn
          rw [e1, p_cv]
          exact .inl (.inl ⟨t', h2, rfl, e2, e3, e4, e5⟩)
        · rw [if_neg c5, hI_lt (show h i < 12 by omega)]
          have qo : ∀ y, y < c → up q c (h i) y = q y := fun y hy => up_ne (by omega)
          refine ih (i + 1) f (T ||| 2 ^ i) (up rk i (c - 1)) (up q c (h i)) (up lf i u) (c + 1) _ (by omega) (by omega) ⟨T1, by omega, ?_, fun j hj tj => ?_, fun j hj tj => ?_, fun y y1 y2 => ?_⟩ ⟨(s.1.wI (by decide) _ _).wI (by decide) _ _, fun j hj => ?_, fun j hj => (p_IIn (by omega)).trans (lf' j hj), fun y hy => ?_⟩ (by omega) ?_ (fun y hy j hj he => ?_) (fun j hj he => ?_)
          · rw [qo 0 (by omega)]
            exact b.2.2.1
          · by_cases hq : j = i
            · rw [hq, up_at, up_at, show c - 1 + 1 = c by omega, up_at]
              refine ⟨c5, by omega, rfl, u12, c1', ?_⟩
              rcases uc with z | ⟨j', j1, j2, j3, j4⟩
              · exact .inl z
              · exact .inr ⟨j', j1, by rw [set_bit, j2]; rfl, j3, by rw [up_ne (bT j' j1 j2)]; omega⟩
            · have tj' : T.testBit j = true := by
                rw [set_bit] at tj
                cases q : T.testBit j with
                | true => rfl
                | false => rw [q] at tj; simp at tj; omega
              obtain ⟨b1, b2, b3, b4, b5, b6⟩ := b.2.2.2.1 j hj tj'
              rw [up_ne hq, up_ne hq, qo _ b2]
              refine ⟨b1, by omega, b3, b4, b5, ?_⟩
              rcases b6 with z | ⟨j', j1, j2, j3, j4⟩
              · exact .inl z
              · exact .inr ⟨j', j1, by rw [set_bit, j2]; rfl, j3, by rw [up_ne (bT j' j1 j2)]; exact j4⟩
          · have hq : j ≠ i := fun z => by
              rw [z, set_bit] at tj
              simp at tj
            have tj' : T.testBit j = false := by
              rw [set_bit] at tj
              cases q : T.testBit j with
              | false => rfl
              | true => rw [q] at tj; simp at tj
            rw [up_ne hq]
            exact b.2.2.2.2.1 j hj tj'
          · by_cases hq : y = c
            · exact ⟨i, i12, by rw [set_bit]; simp, by rw [up_at]; omega, by rw [hq, up_at]⟩
            · obtain ⟨j, j1, j2, j3, j4⟩ := b.2.2.2.2.2 y y1 (by omega)
              exact ⟨j, j1, by rw [set_bit, j2]; rfl, by rw [up_ne (bT j j1 j2)]; exact j3, by rw [qo y (by omega)]; exact j4⟩
          · rw [p_IIn (by omega), p_IIn (by omega)]
            exact s.2.1 j hj
          · rw [p_II]
            by_cases hq : y = c
            · rw [if_pos ⟨rfl, hq⟩, hq, up_at]
            · rw [if_neg (fun z => hq z.2), p_IIn (by omega), qo y (by omega)]
              exact s.2.2.2 y (by omega)
          · rw [qo x hx]
            exact hu
          · rw [qo y (by omega)] at he
            rw [set_bit, hp y hy j hj he]
            rfl
          · by_cases hq : j = i
            · rw [hq, set_bit]; simp
            · rw [set_bit, hpi j (by omega) he]
              rfl
theorem m_outer (hn : 8000 ≤ n) (hr : ms_Rf τ0) (h61 : ∀ w, w < 12 → mm_I τ0 1 (61 + w) = nI (g w)) (hg : ∀ w, w < 12 → g w < 4096) (hM : MA g h A) (h12 : ∀ j, j < 12 → h j ≤ 12) (hA : ¬ A w) (hw : w < 12) :
    ∀ m x f T rk q lf c t, x + m = 13 → m < f → BI g h w T rk q lf c → BS τ0 h lf q c t → x ≤ c → (∀ a, a < x → ∀ j, j < 12 → (g (q a)).testBit j = true → T.testBit j = true) →
    OR' g τ0 h A w (L_X12_isOneMore_32 mm_km n 0 (nI w) (fun s14 => some (0, s14)) f (nI c) (nI x) t) := by
  have fin : ∀ x f T rk q lf c t, 0 < f → x ≤ 13 → BI g h w T rk q lf c → BS τ0 h lf q c t → c ≤ x → (∀ a, a < x → ∀ j, j < 12 → (g (q a)).testBit j = true → T.testBit j = true) → OR' g τ0 h A w (L_X12_isOneMore_32 mm_km n 0 (nI w) (fun s14 => some (0, s14)) f (nI c) (nI x) t) := by
    intro x f T rk q lf c t hf hx b s hc hp
    obtain ⟨f, rfl⟩ : ∃ f', f = f' + 1 := ⟨f - 1, by omega⟩
    have cc := b.2.1
    refine .inr ⟨t, ?_, s.1, s.2.1, fun ⟨m, hm⟩ => no_match hM hw hA (T := T) ⟨fun j hj tj => ?_, fun i hi he => ?_⟩ hm⟩
    · rw [L_X12_isOneMore_32_s]
      exact if_pos (by rw [s_le (by omega) (by omega)]; exact hc)
    · obtain ⟨b1, b2, b3, -⟩ := b.2.2.2.1 j hj tj
      exact ⟨b1, fun i hi he => hp (rk j + 1) (by omega) i hi (by rw [b3]; exact he)⟩
    · exact hp 0 (by omega) i hi (by rw [b.2.2.1]; exact he)
  intro m
  induction m with
  | zero =>
    intro x f T rk q lf c t hx hf b s hc hp
    have cc := b.2.1
    have pb := pc_bound b.1
    exact fin x f T rk q lf c t hf (by omega) b s (by omega) hp
  | succ m ih =>
    intro x f T rk q lf c t hx hf b s hc hp
    have cc := b.2.1
    have pb := pc_bound b.1
    by_cases c1 : c ≤ x
    · exact fin x f T rk q lf c t (by omega) (by omega) b s c1 hp
    · obtain ⟨f, rfl⟩ : ∃ f', f = f' + 1 := ⟨f - 1, by omega⟩
      have hr1 := s.1.ms hr
      rw [L_X12_isOneMore_32_s, if_neg (by rw [s_le (by omega) (by omega)]; exact c1), rm_32 hr1, p_ob, lm_16, s_ix (show x < 13 by omega) (by decide), s_cl (by omega), s.2.2.2 x (by omega)]
      simp only [p_bd]
      rcases m_look (n := n) hn hr h61 hg hM h12 hA hw (x := x) (u := q x) (fun (x23 : Int32) (s24 : mm_M) => L_X12_isOneMore_32 mm_km n 0 (nI w) (fun s14 => some (0, s14)) f x23 (nI x + 1) s24) 12 0 n T rk q lf c t (by omega) (by omega) b s (by omega) rfl hp (fun j hj => by omega) with z | ⟨T', rk', q', lf', c', t', e1, e2, e3, e4, e5⟩
      · exact z
      · have e1' : L_X12_isOneMore_48 mm_km n 0 (nI w) (nI (q x)) (fun (x23 : Int32) (s24 : mm_M) => L_X12_isOneMore_32 mm_km n 0 (nI w) (fun s14 => some (0, s14)) f x23 (nI x + 1) s24) n (nI c) 0 t = _ := e1
        rw [e1', show nI x + 1 = nI (x + 1) from nI_add x 1]
        exact ih (x + 1) f T' rk' q' lf' c' t' (by omega) (by omega) e2 e3 (by omega) e5
theorem m_one (hn : 8000 ≤ n) (hr : ms_Rf τ0) (h61 : ∀ w, w < 12 → mm_I τ0 1 (61 + w) = nI (g w)) (hg : ∀ w, w < 12 → g w < 4096) (hM : MA g h A) (h12 : ∀ j, j < 12 → h j ≤ 12) (hA : ¬ A w) (hw : w < 12) (E : eqx τ0 t [14, 15, 16]) (h14 : ∀ j, j < 12 → mm_I t 14 j = hI (h j)) : OR' g τ0 h A w (f_X12_isOneMore mm_km n 0 (nI w) t) := by
  have hr1 := E.ms hr
  obtain ⟨u, e1, e2, e3, e4, e5⟩ := lpA (fun k f i s => L_X12_isOneMore_11 mm_km n 0 k f (nI i) s) (fun k s => k s) (fun i s => eqx τ0 s [14, 15, 16] ∧ (∀ j, j < 12 → mm_I s 14 j = hI (h j)) ∧ mm_I s 16 0 = nI w ∧ ∀ j, j < i → mm_I s 15 j = hI 12) 12 (by
    rintro f i s hi ⟨u1, u2, u3, u4⟩
    have hr2 := u1.ms hr
    refine ⟨mm_wI s 15 i (-1), fun k => ?_, u1.wI (by decide) _ _, fun j hj => (p_IIn (by omega)).trans (u2 j hj), (p_IIn (by omega)).trans u3, fun j hj => ?_⟩
    · show L_X12_isOneMore_11 mm_km n 0 k (f + 1) (nI i) s = L_X12_isOneMore_11 mm_km n 0 k f (nI (i + 1)) _
      rw [L_X12_isOneMore_11_s, if_neg (by rw [show (12 : Int32) = nI 12 from rfl, s_le (by omega) (by omega)]; omega), rm_31 hr2, p_ob, lm_15, s_ix hi (by decide), s_cl (by omega), show nI i + 1 = nI (i + 1) from nI_add i 1, p_bd, p_bd]
    · rw [p_II]
      by_cases hq : j = i
      · rw [if_pos ⟨rfl, hq⟩]; rfl
      · rw [if_neg (fun z => hq z.2)]
        exact u4 j (by omega)) (by
    rintro f s - k
    show L_X12_isOneMore_11 mm_km n 0 k (f + 1) (nI 12) s = k s
    rw [L_X12_isOneMore_11_s]
    exact if_pos (by decide)) 0 (mm_wI t 16 0 (nI w)) n (by omega) (by omega) ⟨E.wI (by decide) _ _, fun j hj => (p_IIn (by omega)).trans (h14 j hj), by rw [p_II, if_pos ⟨rfl, rfl⟩], fun j hj => by omega⟩
  have e1' : ∀ k, L_X12_isOneMore_11 mm_km n 0 k n 0 (mm_wI t 16 0 (nI w)) = k u := e1
  unfold f_X12_isOneMore
  rw [rm_32 hr1, p_ob, show mm_ix 0 (mm_ln (mm_km 16)) = mm_ix (nI 0) 13 from rfl, s_ix (by decide) (by decide), p_bd, show (0 : Int32).toNatClampNeg = 0 from rfl, e1']
  exact m_outer hn hr h61 hg hM h12 hA hw 13 0 n 0 (fun _ => 0) (fun _ => w) (fun _ => 12) 1 u (by omega) (by omega) ⟨by omega, by rw [pc_zero], rfl, fun j hj z => by rw [Nat.zero_testBit] at z; exact absurd z (by decide), fun _ _ _ => rfl, fun y y1 y2 => by omega⟩ ⟨e2, e3, fun j hj => e5 j hj, fun y hy => by rw [show y = 0 by omega]; exact e4⟩ (by omega) (fun y hy => by omega)
theorem c_both (hn : 8000 ≤ n) {σ0 : mm_M} (hx : xs_Rf σ0) (hr : ms_Rf τ0) (h4 : ∀ w, w < 12 → mm_I σ0 4 w = nI (g w)) (h61 : ∀ w, w < 12 → mm_I τ0 1 (61 + w) = nI (g w)) (hg : ∀ w, w < 12 → g w < 4096) (hgt : ∀ w, w < 12 → ∀ j, (g w).testBit j = true → w < j) :
    ∀ m v f f' c A hX hM' σ t, v + m = 12 → m < f → m < f' → c ≤ v → (∀ a, A a → a < v) → MA g hX A → MA g hM' A → (∀ j, j < 12 → hX j ≤ 12) → (∀ j, j < 12 → hM' j ≤ 12) → eqx σ0 σ [565, 568] → (∀ j, j < 12 → mm_I σ 568 j = hI (hX j)) → eqx τ0 t [14, 15, 16] → (∀ j, j < 12 → mm_I t 14 j = hI (hM' j)) →
    ∃ r σ' t', L_X6_fewestRows_25 mm_kx n 565 (fun (x12 : Int32) (s13 : mm_M) => (some (12 - x12, s13))) f (nI c) (nI v) σ = some (r, σ') ∧ L_X12_chains_26 mm_km n 0 (fun (x12 : Int32) (s13 : mm_M) => (some (x12, s13))) f' (nI (12 - c)) (nI v) t = some (r, t') ∧ eqx σ0 σ' [565, 568] ∧ eqx τ0 t' [14, 15, 16] := by
  intro m
  induction m with
  | zero =>
    intro v f f' c A hX hM' σ t hv hf hf' hc hAv mX mM x12 m12 F r568 E r14
    obtain ⟨f, rfl⟩ : ∃ f₁, f = f₁ + 1 := ⟨f - 1, by omega⟩
    obtain ⟨f', rfl⟩ : ∃ f₁, f' = f₁ + 1 := ⟨f' - 1, by omega⟩
    have : v = 12 := by omega
    subst this
    refine ⟨nI (12 - c), σ, t, ?_, ?_, F, E⟩
    · rw [L_X6_fewestRows_25_s, if_pos (by decide), show (12 : Int32) = nI 12 from rfl, sub13 (by omega) hc]
    · rw [L_X12_chains_26_s, if_pos (by decide)]
  | succ m ih =>
    intro v f f' c A hX hM' σ t hv hf hf' hc hAv mX mM x12 m12 F r568 E r14
    obtain ⟨f, rfl⟩ : ∃ f₁, f = f₁ + 1 := ⟨f - 1, by omega⟩
    obtain ⟨f', rfl⟩ : ∃ f₁, f' = f₁ + 1 := ⟨f' - 1, by omega⟩
    have n12 : ¬ (12 : Int32) ≤ nI v := by rw [show (12 : Int32) = nI 12 from rfl, s_le (by omega) (by omega)]; omega
    have v1 : nI v + 1 = nI (v + 1) := nI_add v 1
    have hA : ¬ A v := fun z => by have := hAv v z; omega
    rw [L_X6_fewestRows_25_s, L_X12_chains_26_s, if_neg n12, if_neg n12, v1]
    simp only [p_bd]
    rcases x_one hn hx h4 hg hgt x12 mX (show v < 12 by omega) hA F r568 with ⟨s1, h1, T1, a1, a2, a3, a4⟩ | ⟨s1, T1, a1, a2, a3⟩
    · rcases m_one (n := n) hn hr h61 hg mM m12 hA (show v < 12 by omega) E r14 with ⟨t1, h2, b1, b2, b3, b4, b5⟩ | ⟨t1, b1, b2, b3, b4⟩
      · rw [a1, p_cl, b1, p_cl, if_neg (by decide), if_neg (by decide), show nI c + 1 = nI (c + 1) from nI_add c 1, show (1 : Int32) = nI 1 from rfl, sub13 (by omega) (show 1 ≤ 12 - c by omega), show 12 - c - 1 = 12 - (c + 1) by omega]
        exact ih (v + 1) f f' (c + 1) _ h1 h2 s1 t1 (by omega) (by omega) (by omega) (by omega) (fun a z => by
          rcases z with z | z
          · omega
          · have := hAv a z; omega) a4 b5 a3 b4 a2.1 a2.2.1 b2 b3
      · exact absurd ⟨h1, a4⟩ b4
    · rcases m_one (n := n) hn hr h61 hg mM m12 hA (show v < 12 by omega) E r14 with ⟨t1, h2, b1, b2, b3, b4, b5⟩ | ⟨t1, b1, b2, b3, b4⟩
      · exact absurd ⟨h2, b5⟩ a3
      · rw [a1, p_cl, b1, p_cl, if_pos (show nI 0 = 0 from rfl), if_pos (show nI 0 = 0 from rfl), show (0 : Int32) = nI 0 from rfl, sub13 (by omega) (show 0 ≤ 12 - c by omega), Nat.sub_zero]
        exact ih (v + 1) f f' c A hX hM' s1 t1 (by omega) (by omega) (by omega) (by omega) (fun a z => by have := hAv a z; omega) mX mM x12 m12 a2.1 a2.2.1 b2 b3
end CB
section CO'
variable {n : Nat}
theorem o_chains (hn : 8000 ≤ n) : mm_ok2 (Inv n) (fun σ => f_X11_chains mm_kx n 0 σ) (fun τ => f_X12_chains mm_km n 0 τ) := by
  rintro σ τ ⟨D, H, S, Dk, Hk, Sk, Mt, C, ln, by', h⟩
  have h : II n D H S Dk Hk Sk Mt C ln by' σ τ := h
  show ∃ r σ' τ', f_X11_chains mm_kx n 0 σ = _ ∧ f_X12_chains mm_km n 0 τ = _ ∧ _
  have hx := h.1.wx h.2.2.1
  have hm := h.2.1.wm
  obtain ⟨s1, e1, e2, e3⟩ := lpA (fun k f i s => L_X6_fewestRows_2 mm_kx n 565 k f (nI i) s) (fun k s => k s) (fun i s => eqx σ s [565, 568] ∧ ∀ j, j < i → mm_I s 568 j = hI 12) 12 (by
    rintro f i s hi ⟨u1, u4⟩
    have hr2 := u1.xs h.rx
    refine ⟨mm_wI s 568 i (-1), fun k => ?_, u1.wI (by decide) _ _, fun j hj => ?_⟩
    · show L_X6_fewestRows_2 mm_kx n 565 k (f + 1) (nI i) s = L_X6_fewestRows_2 mm_kx n 565 k f (nI (i + 1)) _
      rw [L_X6_fewestRows_2_s, if_neg (by rw [show (12 : Int32) = nI 12 from rfl, s_le (by omega) (by omega)]; omega), rx_565_3 hr2, p_ob, lx_568, s_ix hi (by decide), s_cl (by omega), show nI i + 1 = nI (i + 1) from nI_add i 1, p_bd, p_bd]
    · rw [p_II]
      by_cases hq : j = i
      · rw [if_pos ⟨rfl, hq⟩]; rfl
      · rw [if_neg (fun z => hq z.2)]
        exact u4 j (by omega)) (by
    rintro f s - k
    show L_X6_fewestRows_2 mm_kx n 565 k (f + 1) (nI 12) s = k s
    rw [L_X6_fewestRows_2_s]
    exact if_pos (by decide)) 0 σ n (by omega) (by omega) ⟨eqx.rfl' _ _, fun j hj => by omega⟩
  obtain ⟨t1, g1, g2, g3⟩ := lpA (fun k f i s => L_X12_chains_2 mm_km n 0 k f (nI i) s) (fun k s => k s) (fun i s => eqx τ s [14, 15, 16] ∧ ∀ j, j < i → mm_I s 14 j = hI 12) 12 (by
    rintro f i s hi ⟨u1, u4⟩
    have hr2 := u1.ms h.rm
    refine ⟨mm_wI s 14 i (-1), fun k => ?_, u1.wI (by decide) _ _, fun j hj => ?_⟩
    · show L_X12_chains_2 mm_km n 0 k (f + 1) (nI i) s = L_X12_chains_2 mm_km n 0 k f (nI (i + 1)) _
      rw [L_X12_chains_2_s, if_neg (by rw [show (12 : Int32) = nI 12 from rfl, s_le (by omega) (by omega)]; omega), rm_30 hr2, p_ob, lm_14, s_ix hi (by decide), s_cl (by omega), show nI i + 1 = nI (i + 1) from nI_add i 1, p_bd, p_bd]
    · rw [p_II]
      by_cases hq : j = i
      · rw [if_pos ⟨rfl, hq⟩]; rfl
      · rw [if_neg (fun z => hq z.2)]
        exact u4 j (by omega)) (by
    rintro f s - k
    show L_X12_chains_2 mm_km n 0 k (f + 1) (nI 12) s = k s
    rw [L_X12_chains_2_s]
    exact if_pos (by decide)) 0 τ n (by omega) (by omega) ⟨eqx.rfl' _ _, fun j hj => by omega⟩
  have e1' : ∀ k, L_X6_fewestRows_2 mm_kx n 565 k n 0 σ = k s1 := e1
  have g1' : ∀ k, L_X12_chains_2 mm_km n 0 k n 0 τ = k t1 := g1
  have m0 : MA (D 0) (fun _ => 12) (fun _ => False) := ⟨⟨fun j _ _ z => absurd rfl z, fun _ _ _ _ _ _ z => absurd rfl z⟩, fun a ha => ⟨fun ⟨j, _, _, z⟩ => by
    have z : 12 = a := z
    omega, fun z => z.elim⟩⟩
  obtain ⟨r, σ', τ', c1, c2, c3, c4⟩ := c_both (n := n) (g := D 0) hn h.rx h.rm hx.2.2.2.1 hm.2.2 hx.2.2.2.2.1 hx.2.2.2.2.2.1 12 0 n n 0 (fun _ => False) (fun _ => 12) (fun _ => 12) s1 t1 (by omega) (by omega) (by omega) (by omega) (fun _ z => z.elim) m0 m0 (fun _ _ => Nat.le_refl _) (fun _ _ => Nat.le_refl _) e2 (fun j hj => e3 j hj) g2 (fun j hj => g3 j hj)
  unfold f_X11_chains f_X6_fewestRows f_X12_chains
  rw [rx_0_7 h.rx, p_ob, e1', g1']
  have c1' : L_X6_fewestRows_25 mm_kx n 565 (fun (x12 : Int32) (s13 : mm_M) => (some (12 - x12, s13))) n 0 0 s1 = some (r, σ') := c1
  have c2' : L_X12_chains_26 mm_km n 0 (fun (x12 : Int32) (s13 : mm_M) => (some (x12, s13))) n 12 0 t1 = some (r, τ') := c2
  rw [c1', p_cl, c2']
  refine ⟨r, σ', τ', rfl, rfl, (h.sc ((c3.y []).sx (fun k hk => ?_)) (c4.sm (by decide) (by decide) (by decide) (by decide) (by decide))).inv⟩
  simp at hk
  omega
end CO'
