/-! chains: the class -/
def hI (x : Nat) : Int32 := if x = 12 then -nI 1 else nI x
theorem hI_lt {x : Nat} (h : x < 12) : hI x = nI x := if_neg (by omega)
theorem hI_m {x : Nat} (h : x ≤ 12) : (hI x = -nI 1) = (x = 12) := by
  by_cases hx : x = 12
  · rw [hx]; exact propext ⟨fun _ => rfl, fun _ => rfl⟩
  · rw [hI_lt (by omega), s_neg2 (by omega)]
    exact propext ⟨fun f => f.elim, fun f => hx f⟩
def CS (σ0 : mm_M) (h : Nat → Nat) (T : Nat) (σ : mm_M) : Prop := eqx σ0 σ [565, 568] ∧ (∀ j, j < 12 → mm_I σ 568 j = hI (h j)) ∧ mm_I σ 565 4 = nI T ∧ T < 4096
def JR (g : Nat → Nat) (σ0 : mm_M) (h : Nat → Nat) (T v : Nat) (res : Option (Int32 × mm_M)) : Prop :=
  (∃ σ' h' T', res = some (nI 1, σ') ∧ CS σ0 h' T' σ' ∧ (∀ j, T.testBit j = true → h' j = h j) ∧ IG g (oT T) h' ∧ ∀ a, a < 12 → (im (oT T) h' a ↔ a = v ∨ im (oT T) h a)) ∨
  (∃ σ' T', res = some (nI 0, σ') ∧ CS σ0 h T' σ' ∧ (∀ j, T.testBit j = true → T'.testBit j = true) ∧ (∀ j, j < 12 → T'.testBit j = true → T.testBit j = false → h j ≠ 12 ∧ ∀ i, i < 12 → (g (h j)).testBit i = true → T'.testBit i = true) ∧ ∀ i, i < 12 → (g v).testBit i = true → T'.testBit i = true)
section CX'
variable {n : Nat} {g h : Nat → Nat} {σ σ0 : mm_M} {T v i : Nat}
theorem CS.put (hc : CS σ0 h T σ) (hi : i < 12) (v : Nat) (hv : v < 12) : CS σ0 (up h i v) T (mm_wI σ 568 i (nI v)) := by
  obtain ⟨c1, c2, c3, c4⟩ := hc
  refine ⟨c1.wI (by decide) _ _, fun j hj => ?_, (p_IIn (by omega)).trans c3, c4⟩
  rw [p_II]
  by_cases hq : j = i
  · rw [if_pos ⟨rfl, hq⟩, hq, up_at, hI_lt hv]
  · rw [if_neg (fun z => hq z.2), up_ne hq]
    exact c2 j hj
theorem CS.t (hc : CS σ0 h T σ) {T1 : Nat} (hT : T1 < 4096) : CS σ0 h T1 (mm_wI σ 565 4 (nI T1)) := by
  obtain ⟨c1, c2, c3, c4⟩ := hc
  exact ⟨c1.wI (by decide) _ _, fun j hj => (p_IIn (by omega)).trans (c2 j hj), by rw [p_II, if_pos ⟨rfl, rfl⟩], hT⟩
theorem IG.mono {U U' : Nat → Prop} (h' : IG g U h) (e : ∀ j, U' j → U j) : IG g U' h := ⟨fun j hj hU => h'.1 j hj (e j hU), fun i j hi hj hUi hUj => h'.2 i j hi hj (e i hUi) (e j hUj)⟩
theorem bF {T1 j : Nat} (e : ∀ j, T.testBit j = true → T1.testBit j = true) (h : T1.testBit j = false) : T.testBit j = false := by
  cases q : T.testBit j with
  | false => rfl
  | true => rw [e j q] at h; exact absurd h (by decide)
theorem x_joinL (hr : xs_Rf σ0) (h4 : ∀ w, w < 12 → mm_I σ0 4 w = nI (g w)) (hg : ∀ w, w < 12 → g w < 4096) {dep : Nat} {rr : Nat → Nat → Int32 → Int32 → mm_M → Option (Int32 × mm_M)} (hv : v < 12) (hG : IG g (oT T) h) (h12 : ∀ j, j < 12 → h j ≤ 12) (hnv : ¬ im (oT T) h v)
    (hrr : ∀ u T1 σ, u < 12 → T1 < 4096 → pc T < pc T1 → CS σ0 h T1 σ → IG g (oT T1) h → ¬ im (oT T1) h u → JR g σ0 h T1 u (rr 0 565 (nI u) (nI (dep + 1)) σ)) :
    ∀ m i f Tc σ, i + m = 12 → m < f → CS σ0 h Tc σ → (∀ j, T.testBit j = true → Tc.testBit j = true) → (∀ j, j < 12 → Tc.testBit j = true → T.testBit j = false → h j ≠ 12 ∧ ∀ i, i < 12 → (g (h j)).testBit i = true → Tc.testBit i = true) → (∀ j, j < i → (g v).testBit j = true → Tc.testBit j = true) →
    JR g σ0 h T v (L_X6_joins_19 mm_kx n 565 (nI v) (nI dep) rr (fun s6 => some (0, s6)) f (nI i) σ) := by
  intro m
  induction m with
  | zero =>
    intro i f Tc σ hi hf hc hs hcl hN
    obtain ⟨f, rfl⟩ : ∃ f', f = f' + 1 := ⟨f - 1, by omega⟩
    have : i = 12 := by omega
    subst this
    exact .inr ⟨σ, Tc, by rw [L_X6_joins_19_s]; exact if_pos (by decide), hc, hs, hcl, hN⟩
  | succ m ih =>
    intro i f Tc σ hi hf hc hs hcl hN
    obtain ⟨f, rfl⟩ : ∃ f', f = f' + 1 := ⟨f - 1, by omega⟩
    have hr1 := hc.1.xs hr
    have a4 : mm_I σ 4 v = nI (g v) := (hc.1.2 4 (by decide) v).trans (h4 v hv)
    have gv := hg v hv
    have c3 := hc.2.2.1
    have T12 := hc.2.2.2
    have n12 : ¬ (12 : Int32) ≤ nI i := by rw [show (12 : Int32) = nI 12 from rfl, s_le (by omega) (by omega)]; omega
    have i1 : nI i + 1 = nI (i + 1) := nI_add i 1
    have d1 : nI dep + 1 = nI (dep + 1) := nI_add dep 1
    have stay : (∀ j, j < i + 1 → (g v).testBit j = true → Tc.testBit j = true) → JR g σ0 h T v (L_X6_joins_19 mm_kx n 565 (nI v) (nI dep) rr (fun s6 => some (0, s6)) f (nI (i + 1)) σ) := fun q => ih (i + 1) f Tc σ (by omega) (by omega) hc hs hcl q
    by_cases c1 : (g v).testBit i = false
    · have e : L_X6_joins_19 mm_kx n 565 (nI v) (nI dep) rr (fun s6 => some (0, s6)) (f + 1) (nI i) σ = L_X6_joins_19 mm_kx n 565 (nI v) (nI dep) rr (fun s6 => some (0, s6)) f (nI (i + 1)) σ := by
        rw [L_X6_joins_19_s, if_neg n12, i1]
        simp (disch := omega) only [p_bd, p_ob, rx_565_0 hr1, rx_2_1 hr1, lx_4, s_ix, s_cl, a4]
        rw [if_pos (by rw [show (0 : Int32) = nI 0 from rfl, s_has0 (by omega) (by omega)]; exact c1)]
      rw [e]
      exact stay (fun j hj he => by
        by_cases hq : j = i
        · rw [hq, c1] at he; exact absurd he (by decide)
        · exact hN j (by omega) he)
    · have c1' : (g v).testBit i = true := by cases hb : (g v).testBit i <;> simp_all
      have nh : ¬ v_X11_has (nI (g v)) (nI i) = 0 := by rw [show (0 : Int32) = nI 0 from rfl, s_has0 (by omega) (by omega)]; exact c1
      by_cases c2 : Tc.testBit i = false
      · have T1 : Tc ||| 2 ^ i < 4096 := or12 T12 (pow12 (by omega))
        have hc1 := hc.t T1
        have hr2 := hc1.1.xs hr
        have hh := hc1.2.1 i (by omega)
        have hh12 := h12 i (by omega)
        have pre : L_X6_joins_19 mm_kx n 565 (nI v) (nI dep) rr (fun s6 => some (0, s6)) (f + 1) (nI i) σ = if h i = 12 then some (1, mm_wI (mm_wI σ 565 4 (nI (Tc ||| 2 ^ i))) 568 i (nI v)) else mm_cl (rr 0 565 (hI (h i)) (nI (dep + 1)) (mm_wI σ 565 4 (nI (Tc ||| 2 ^ i)))) (fun r21 s20 => if r21 = 0 then L_X6_joins_19 mm_kx n 565 (nI v) (nI dep) rr (fun s6 => some (0, s6)) f (nI (i + 1)) s20 else mm_ob (mm_R s20 565 3) (fun a17 => mm_ck (mm_ix (nI i) (mm_ln (mm_kx a17))) (some (1, mm_wI s20 a17 i (nI v))))) := by
          rw [L_X6_joins_19_s, if_neg n12, i1, d1]
          simp (disch := omega) only [p_bd, p_ob, rx_565_0 hr1, rx_2_1 hr1, lx_4, s_ix, s_cl, a4, c3, p_RI, rx_565_3 hr1, lx_568]
          rw [if_neg nh, if_pos (by rw [show (0 : Int32) = nI 0 from rfl, s_has0 (by omega) (by omega)]; exact c2), show mm_shl 1 (nI i) = nI (2 ^ i) from s_shl (by omega), p_or, hh]
          by_cases hq : h i = 12
          · rw [if_pos hq, if_pos (show hI (h i) = -1 by rw [hq]; rfl)]
          · rw [if_neg hq, if_neg (show ¬ hI (h i) = -1 from fun z => hq ((hI_m hh12).mp z))]
        rw [pre]
        by_cases c5 : h i = 12
        · rw [if_pos c5]
          have q := take_free hG hv (by omega) hnv (bF hs c2) c1' c5
          refine .inl ⟨_, up h i v, Tc ||| 2 ^ i, rfl, hc1.put (by omega) v hv, fun j hj => up_ne (fun z => ?_), q.1, q.2⟩
          rw [z, bF hs c2] at hj
          exact absurd hj (by decide)
        · rw [if_neg c5]
          have ub : h i < 12 := by omega
          have sub1 : ∀ j, T.testBit j = true → (Tc ||| 2 ^ i).testBit j = true := fun j hj => by rw [set_bit, hs j hj]; rfl
          have pcs := pc_set T12 (show i < 12 by omega) c2
          have pcm := pc_sub T12 hs
          have nu : ¬ im (oT (Tc ||| 2 ^ i)) h (h i) := by
            rintro ⟨j, j1, j2, j3⟩
            have := hG.2 j i j1 (by omega) (bF sub1 j2) (bF hs c2) (by omega) j3
            rw [this] at j2
            unfold oT at j2
            rw [set_bit, c2] at j2
            simp at j2
          rw [hI_lt ub]
          rcases hrr (h i) (Tc ||| 2 ^ i) _ ub T1 (by omega) hc1 (hG.mono (fun j hj => bF sub1 hj)) nu with ⟨s', h', T', e1, e2, e3, e4, e5⟩ | ⟨s', T', e1, e2, e3, e4, e5⟩
          · have hr3 := e2.1.xs hr
            rw [e1, p_cl, if_neg (by decide), rx_565_3 hr3, p_ob, lx_568, s_ix (show i < 12 by omega) (by decide)]
            have q := take_held hG hv (show i < 12 by omega) hnv hs c2 c1' c5 e3 e4 e5
            exact .inl ⟨_, up h' i v, T', rfl, e2.put (by omega) v hv, q.1, q.2.1, q.2.2⟩
          · rw [e1, p_cl, if_pos (show nI 0 = 0 from rfl)]
            have ti : T'.testBit i = true := e3 i (by rw [set_bit]; simp)
            have tc : ∀ j, Tc.testBit j = true → T'.testBit j = true := fun j hj => e3 j (by rw [set_bit, hj]; rfl)
            refine ih (i + 1) f T' s' (by omega) (by omega) e2 (fun j hj => tc j (hs j hj)) (fun j hj t1 t2 => ?_) (fun j hj he => ?_)
            · by_cases hq : j = i
              · rw [hq]
                exact ⟨c5, e5⟩
              · cases tj : Tc.testBit j with
                | true =>
                  have q := hcl j hj tj t2
                  exact ⟨q.1, fun k hk he => tc k (q.2 k hk he)⟩
                | false => exact e4 j hj t1 (by rw [set_bit, tj]; simp; omega)
            · by_cases hq : j = i
              · rw [hq]; exact ti
              · exact tc j (hN j (by omega) he)
      · have c2' : Tc.testBit i = true := by cases hb : Tc.testBit i <;> simp_all
        have e : L_X6_joins_19 mm_kx n 565 (nI v) (nI dep) rr (fun s6 => some (0, s6)) (f + 1) (nI i) σ = L_X6_joins_19 mm_kx n 565 (nI v) (nI dep) rr (fun s6 => some (0, s6)) f (nI (i + 1)) σ := by
          rw [L_X6_joins_19_s, if_neg n12, i1]
          simp (disch := omega) only [p_bd, p_ob, rx_565_0 hr1, rx_2_1 hr1, lx_4, s_ix, s_cl, a4, c3]
          rw [if_neg nh, if_neg (by rw [show (0 : Int32) = nI 0 from rfl, s_has0 (by omega) (by omega)]; exact c2)]
        rw [e]
        exact stay (fun j hj he => by
          by_cases hq : j = i
          · rw [hq]; exact c2'
          · exact hN j (by omega) he)
theorem x_joins (hn : 8000 ≤ n) (hr : xs_Rf σ0) (h4 : ∀ w, w < 12 → mm_I σ0 4 w = nI (g w)) (hg : ∀ w, w < 12 → g w < 4096) (hgt : ∀ w, w < 12 → ∀ j, (g w).testBit j = true → w < j) (h12 : ∀ j, j < 12 → h j ≤ 12) : ∀ d v dep T σ, v < 12 → dep ≤ pc T → 12 < d + pc T → IG g (oT T) h → ¬ im (oT T) h v → CS σ0 h T σ → JR g σ0 h T v (R_X6_joins mm_kx n d 0 565 (nI v) (nI dep) σ) := by
  intro d
  induction d with
  | zero =>
    intro v dep T σ hv hd hp hG hnv hc
    have := pc_bound hc.2.2.2
    omega
  | succ d ih =>
    intro v dep T σ hv hd hp hG hnv hc
    have pb := pc_bound hc.2.2.2
    rw [R_X6_joins_s0]
    unfold B_X6_joins
    rw [if_neg (by rw [show (12 : Int32) = nI 12 from rfl, s_lt (by omega) (by omega)]; omega), want1 hv, if_neg n10, p_bd, show nI v + 1 = nI (v + 1) from nI_add v 1]
    exact x_joinL hr h4 hg hv hG h12 hnv (fun u T1 σ hu hT hlt hc' hG' hn' => ih u (dep + 1) T1 σ hu (by omega) (by omega) hG' hn' hc') (11 - v) (v + 1) n T σ (by omega) (by omega) hc (fun j hj => hj) (fun j hj t1 t2 => by rw [t1] at t2; exact absurd t2 (by decide)) (fun j hj he => by have := hgt v hv j he; omega)
/-- one want of the class -/
theorem x_one (hn : 8000 ≤ n) (hr : xs_Rf σ0) (h4 : ∀ w, w < 12 → mm_I σ0 4 w = nI (g w)) (hg : ∀ w, w < 12 → g w < 4096) (hgt : ∀ w, w < 12 → ∀ j, (g w).testBit j = true → w < j) {A : Nat → Prop} (h12 : ∀ j, j < 12 → h j ≤ 12) (hM : MA g h A) (hv : v < 12) (hA : ¬ A v) (hE : eqx σ0 σ [565, 568]) (hh : ∀ j, j < 12 → mm_I σ 568 j = hI (h j)) :
    (∃ σ' h' T', f_X6_joins mm_kx n 565 (nI v) 0 (mm_wI σ 565 4 0) = some (nI 1, σ') ∧ CS σ0 h' T' σ' ∧ (∀ j, j < 12 → h' j ≤ 12) ∧ MA g h' (fun a => a = v ∨ A a)) ∨ (∃ σ' T', f_X6_joins mm_kx n 565 (nI v) 0 (mm_wI σ 565 4 0) = some (nI 0, σ') ∧ CS σ0 h T' σ' ∧ ¬ ∃ m, MA g m (fun a => a = v ∨ A a)) := by
  have o : ∀ j, oT 0 j := fun j => Nat.zero_testBit j
  have iA : ∀ (h : Nat → Nat) a, im (oT 0) h a ↔ im all' h a := fun h a => ⟨fun ⟨j, j1, _, j3⟩ => ⟨j, j1, trivial, j3⟩, fun ⟨j, j1, _, j3⟩ => ⟨j, j1, o j, j3⟩⟩
  rcases x_joins (n := n) hn hr h4 hg hgt h12 16 v 0 0 (mm_wI σ 565 4 (nI 0)) hv (by omega) (by omega) (hM.1.mono (fun _ _ => trivial)) (fun q => hA ((hM.2 v hv).mp ((iA h v).mp q))) ⟨hE.wI (by decide) _ _, fun j hj => (p_IIn (by omega)).trans (hh j hj), by rw [p_II, if_pos ⟨rfl, rfl⟩], by omega⟩ with ⟨s', h', T', e1, e2, e3, e4, e5⟩ | ⟨s', T', e1, e2, e3, e4, e5⟩
  · refine .inl ⟨s', h', T', e1, e2, fun j hj => ?_, e4.mono (fun j _ => o j), fun a ha => ?_⟩
    · by_cases c : h' j = 12
      · omega
      · have := (e4.1 j hj (o j) c).1
        omega
    · rw [← iA, e5 a ha, iA, hM.2 a ha]
  · refine .inr ⟨s', T', e1, e2, fun ⟨m, hm⟩ => no_match hM hv hA ⟨fun j hj t => e4 j hj t (o j), e5⟩ hm⟩
end CX'
