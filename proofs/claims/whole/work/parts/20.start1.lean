theorem mi_L_9 : mm_MI RL 9 yX11_init cX11_init 2 0 := ⟨q_133, q_134, q_111, q_135, rfl, by decide +kernel, by decide +kernel, by decide +kernel⟩
theorem mi_L_12 : mm_MI RL 12 yX12_init cX12_init 2 0 := ⟨q_1360, q_1361, q_123, q_1362, rfl, by decide +kernel, by decide +kernel, by decide +kernel⟩
def mm_0 : mm_M := (fun _ _ => 0, fun _ _ => 0, fun _ _ => none)
theorem mm_nest_in : ∀ w ∈ mm_nest, w ∈ lw_tbl := by decide +kernel
theorem mm_H0 {G : mm_G} {A : Nat → Prop} {σ : mm_M} {H0 H : Heap} {locs : List Loc} (hS : va_S A H0 H locs) : mm_H G 0 A σ H0 H locs := ⟨fun k q h => by simp [mm_ws] at h, ⟨fun i j p q h => by simp [mm_ws] at h, fun k q h => by simp [mm_ws] at h⟩, hS, fun k hk => absurd hk (Nat.not_lt_zero k)⟩
theorem law_make {p : Program} {l : Launch} {e : Env} {s : State} {m : MethodId} {b : Nat} {below : List Frame} {meth : Method} {c : Code} {H : Heap} {locs : List Loc} {cs ss pc : Nat} {ls : Array Slot} {st : List Value} {Q : State → Prop} {G : mm_G} {ci N mc ms fr' lo' nl idx1 idx2 : Nat} {Cn : String} {T : u_T} {ty0 : Nat → FieldType} {y : MethodName} {bc : ByteArray} {cf : Option mm_M} {ρ : mm_M}
    (hx : p.tables.exec = Jvm.exec) (hb : c.code = code) (hml : c.maxLocals = 4) (hown : s.vm.findClass RL = some m.cls) (hts : ∀ w ∈ mm_W0, w.before #[Value.ref b] s = true) (hKK : va_K G.2.2.1 vwCl (mm_tys G) s) (hN : ∀ w ∈ mm_nest, va_Nw w s) (hSx : mm_Sx G (mm_LA s) s s.heap)
    (cl : mm_CL ci Cn T N ty0) (hdf : ∀ j, j < N → defaultValue (ty0 j) = mm_zv (mm_s ci j)) (hw1 : Cond.classLink RL idx1 Cn ∈ mm_W0) (hw2 : Cond.instantiable Cn N ∈ mm_W0) (hw3 : Cond.initialized Cn ∈ mm_W0) (hk : G.2.1 0 = .inl ci) (ml : mm_MI RL idx2 y bc nl 0)
    (hM : mm_Mc y bc nl fr' lo' mc ms G 1 (mm_nw mm_0 0) [.ref (mm_ad G 0)] cf) (hc : cf = some ρ) (hS : va_S (mm_LA s) s.heap H locs) (hz : G.1 = s.heap.size + cs) (hge : G.1 ≤ H.size) (hls : ls.size = 4) (hst : (st.map fun v => v.category).sum ≤ 7)
    (d0 : decode code pc = .ok (.new idx1, 3)) (d1 : decode code (pc + 3) = .ok (.dup, 1)) (d2 : decode code (pc + 3 + 1) = .ok (.invokespecial idx2, 3)) (r1 : cs + 1 + mc ≤ room_1.cells) (r2 : ss + N + ms ≤ room_1.slots) (hfr : fr' + 1 ≤ room_1.frames) (hlo : 8 + (nl + 11) + lo' ≤ room_1.locals)
    (h : ∀ (H2 : Heap) (locs2 : List Loc), mm_H G (1 + mc) (mm_LA s) ρ s.heap H2 locs2 → (∀ q, q < H.size → H2[q]? = H[q]?) → W p l e room_1 s m #[Value.ref b] below meth c H2 locs2 (cs + 1 + mc) (ss + N + ms) Q (F0 m (pc + 3 + 1 + 3) ls (.ref (mm_ad G 0) :: st))) : W p l e room_1 s m #[Value.ref b] below meth c H locs cs ss Q (F0 m pc ls st) := by
  refine mm_wsz (fun hs1 => ?_)
  have hs : H.size = G.1 := by omega
  have hKn := hKK.1 ci _ cl.1
  have hA : ∀ q, s.heap.size ≤ q → mm_LA s q := fun _ h => h
  refine W.newcK hx hb hown (hts _ hw1) (hts _ hw2) (hts _ hw3) rfl d0 (by omega) (by omega) hKn.2.1 hs (fun H1 kC hkC e1 z1 o1 => ?_)
  have hcell : va_at G.2.2.1 vwCl (mm_ad G 0, mm_c G (mm_nw mm_0 0) 0) H1 := by
    rw [mm_c_obj hk]
    refine ⟨_, cl.1, ?_⟩
    refine t_OB.to (u_born ty0 hts cl.2.1 hKn hkC e1 cl.2.2.1) (fun j hj => ?_)
    rw [hdf j hj]
    have e9 : mm_nf ci = N := mm_nf_of cl.1
    show mm_zv (mm_s ci j) = ((List.range (mm_nf ci)).map (fun i => mm_fv G (mm_nw mm_0 0) 0 i (mm_s ci i))).getD j .null
    rw [e9, List.getD_eq_getElem?_getD, mm_fs_at hj]
    simp only [Option.getD_some, mm_fv, mm_zv, mm_I, mm_L, mm_R, mm_nw]
    split
    · simp
    · split
      · simp
      · simp [va_rf]
  have hH1 : mm_H G 1 (mm_LA s) (mm_nw mm_0 0) s.heap H1 locs := mm_grow (mm_H0 (σ := mm_0) hS) hA (by omega) (by omega) (fun q hq => o1 q (by omega)) hcell
  refine lv_dup (va := .ref (mm_ad G 0)) hx hb d1 rfl ?_
  have hs1' : H1.size = G.1 + 1 := by omega
  have hMM := hM l ρ hc
  have hF := mm_AA hH1 hA
  rw [hs1'] at hF
  have hpre := mm_pre (As := [.ref (mm_ad G 0)]) hH1 hKK hN hSx hA
  rw [hs1'] at hpre
  refine va_callv (va_runI (As := []) (rest := .ref (mm_ad G 0) :: st) ⟨hx, hb, hml, hown, hts⟩ hMM ⟨callB_of 0 hts (mm_good ml.2.2.2.1) rfl rfl rfl (hts _ ml.2.2.1) (hts _ ml.1) ml.2.2.2.2.2 ⟨hfr, hlo⟩, ml.2.2.2.2.1, hts _ ml.2.1⟩ ⟨mm_blind, hpre⟩ rfl rfl hls rfl (lv_room (by simp only [List.map_cons, List.sum_cons]; show 1 + _ ≤ 8; omega)) d2 ⟨r1, r2⟩) hH1.2.2.1 (fun q _ h => hF q h) hF (fun u t H2 locs2 ht hvm hw hB hz1 hk1 hS2 => ?_)
  subst hw
  refine h H2 locs2 ⟨by rw [← ht]; exact hB.1, hB.2.1.weaken (fun _ q _ h => hF q.1 h), hS2, hB.2.2⟩ (fun q hq => ?_)
  rw [hk1 q (by omega) (fun hc => ?_)]
  · exact o1 q (by omega)
  · rcases hc with ⟨k, hk0, hk2⟩ | hc
    · simp only [mm_ad] at hk2
      omega
    · omega
set_option maxRecDepth 100000 in
set_option maxHeartbeats 4000000 in
/-- THE LAW FROM ITS ENTRY, out of what is left without the machine -/
theorem law_start (Inv : mm_M → mm_M → Prop) (n : Nat) (HA : mm_All Inv n) (σx τm : mm_M) (hx0 : f_X11_init mm_kx n 1 0 (mm_nw mm_0 0) = some σx) (hm0 : f_X12_init mm_km n 1 0 (mm_nw mm_0 0) = some τm) (hI : Inv σx τm) {p : Program} {e : Env} {s : State} {m : MethodId} {below : List Frame} {meth : Method} {c : Code} (l : Launch) {b L : Nat} {xs : Nat → Int32} (hL : L ≤ 3072) (C0 : lw_At p s m meth c b L xs) : W p l e room_1 s m #[Value.ref b] below meth c s.heap [] 0 0 (lw_Z below #[Value.ref b] s) (entryFrame m ([Value.ref b] : List Value).toArray 4) := by
  obtain ⟨hx, hb, hr, hml, hown, hta, hX, hbl, hlocks, hgv⟩ := id C0
  have hts : ∀ w ∈ mm_W0, w.before #[Value.ref b] s = true := fun w h => hta w (List.mem_filter.mp h).1
  have hA : ∀ a : Nat, a < s.heap.size → ¬ mm_LA s a := fun a h h2 => absurd h (Nat.not_lt.mpr h2)
  obtain ⟨aK, aV, hSx⟩ := st_Sx (A := mm_LA s) hA hta hgv
  obtain ⟨D, tA, hK⟩ := st_K hts hta
  have hN : ∀ w ∈ mm_nest, va_Nw w s := fun w hw => va_Nw.of (mm_nest_on w hw) (hta w (mm_nest_in w hw))
  have hl := lv_entry ([.ref b]) (n := 4) (Nat.le_of_ble_eq_true rfl)
  rw [lg_entry_eq]
  generalize (lg_sl ([.ref b]) ++ List.replicate (4 - (lg_sl ([.ref b])).length) Slot.unset).toArray = ls at hl ⊢
  have hl : lv_has ls 4 [(0, .ref b)] := hl
  refine law_make (G := (s.heap.size, mm_kx, D, tA, aK, aV)) (pc := 0) (ss := 0) hx hb hml hown hts (hK _ _ _ _) hN (hSx _ _ _ _) cl_11 df_11 q_131 q_132 q_111 rfl mi_L_9 (c_X11_init (s.heap.size, mm_kx, D, tA, aK, aV) n 1 (mm_nw mm_0 0) 0 rfl (by decide)) hx0 va_S.rf rfl (Nat.le_refl _) hl.1 (by decide) dL_law_0 dL_law_3 dL_law_4 (by decide) (by decide) (by decide) (by decide) (fun H2 locs2 hH2 hk2 => ?_)
  refine lv_astore_n (lv' := [(1, .ref (mm_ad (s.heap.size, mm_kx, D, tA, aK, aV) 0)), (0, .ref b)]) hx hb dL_law_7 rfl hl (by decide) rfl (fun ls hl => ?_)
  have hge : s.heap.size + 576 ≤ H2.size := mm_size hH2 (by decide)
  refine law_make (G := (s.heap.size + 576, mm_km, D, tA, aK, aV)) (pc := 8) hx hb hml hown hts (hK _ _ _ _) hN (hSx _ _ _ _) cl_12 df_12 q_1358 q_1359 q_123 rfl mi_L_12 (c_X12_init (s.heap.size + 576, mm_km, D, tA, aK, aV) n 1 (mm_nw mm_0 0) 0 rfl (by decide)) hm0 hH2.2.2.1 rfl hge hl.1 (by decide) dL_law_8 dL_law_11 dL_law_12 (by decide) (by decide) (by decide) (by decide) (fun H3 locs3 hH3 hk3 => ?_)
  refine lv_astore_n (lv' := [(2, .ref (mm_ad (s.heap.size + 576, mm_km, D, tA, aK, aV) 0)), (1, .ref (mm_ad (s.heap.size, mm_kx, D, tA, aK, aV) 0)), (0, .ref b)]) hx hb dL_law_15 rfl hl (by decide) rfl (fun ls hl => ?_)
  refine lv_iconst (v := 0) hx hb dL_law_16 (by decide) ?_
  refine lv_istore_n (lv' := [(3, .int 0), (2, .ref (mm_ad (s.heap.size + 576, mm_km, D, tA, aK, aV) 0)), (1, .ref (mm_ad (s.heap.size, mm_kx, D, tA, aK, aV) 0)), (0, .ref b)]) hx hb dL_law_17 rfl hl (by decide) rfl (fun ls hl => ?_)
  have C : mm_C2 (mm_v2 p l e s m b below meth c (s.heap.size, mm_kx, D, tA, aK, aV) (s.heap.size + 576, mm_km, D, tA, aK, aV) (0 + 1 + 575 + 1 + 19) (0 + 12 + 13246 + 36 + 12262)) l (s.heap.size, mm_kx, D, tA, aK, aV) (s.heap.size + 576, mm_km, D, tA, aK, aV) b L xs := ⟨p, e, s, m, below, meth, c, _, _, rfl, hx, hb, hml, hown, hts, hK _ _ _ _, hK _ _ _ _, hN, hSx _ _ _ _, hSx _ _ _ _, hX, hbl, hr, hlocks, Nat.le_refl _, Nat.le_refl _, by decide, by decide⟩
  have hH2' : mm_H (s.heap.size, mm_kx, D, tA, aK, aV) 576 (mm_LA s) σx s.heap H3 locs3 := ⟨hH2.1.kept (fun k x hx => hk3 x.1 ((hH2.1 k x hx).lt)), hH2.2.1, hH3.2.2.1, hH2.2.2.2⟩
  exact law_loop Inv n HA C hL L 0 0 σx τm (by omega) (Nat.zero_le _) rfl hI H3 locs3 ls hH2' hH3 hl
