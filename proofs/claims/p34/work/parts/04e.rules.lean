/-! ===== calls over the machine ===== -/
section PW4
variable {p : Program} {l : Launch} {e : Env} {R : Room} {s : State} {m : MethodId} {args : Array Value} {below : List Frame} {meth : Method} {cd : Code} {Q : State → Prop} {D : va_G} {Y : pm_Y} {b base n0 maxL : Nat} {E : pm_E}
variable {pc : Nat} {H : Heap} {locs : List Loc} {ls : Array Slot} {rest st0 : List Value} {cells slots mc ms : Nat} {a : Array Value} {free : Addr → Prop}
theorem pm_code_obj : Cond.code objectInit ⟨#[0xb1]⟩ 1 none ∈ lw_tbl := List.mem_of_getElem? (i := lw_privs.length + 23) (by decide +kernel)
theorem pm_code_max : Cond.code Lib.Math.max.name Lib.Math.max.code 2 (some .int) ∈ lw_tbl := List.mem_of_getElem? (i := lw_privs.length + 377) (by decide +kernel)
theorem pm_nest_moved {u U : State} (hW : u.WarmedH U.vm) (h : pm_nest u) : pm_nest U :=
  ⟨fun q hq => va_Nw.warmM hW (h.1 q hq), pm_AO_moved hW.alike h.2.1, pm_AO_moved hW.alike h.2.2⟩
theorem pm_nest_same {u U : State} (e : u.vm = U.vm) (h : pm_nest u) : pm_nest U :=
  ⟨fun q hq => va_Nw.same rfl e (h.1 q hq), pm_AO_moved (e ▸ Vm.Alike.refl u.vm) h.2.1, pm_AO_moved (e ▸ Vm.Alike.refl u.vm) h.2.2⟩
theorem pm_callQ {n2 : Nat} {post : pm_P} (hr : va_Run p l e R s m args below meth cd H locs cells slots mc ms (F0 m pc ls st0) rest (pm_Q D Y b base n2 post a) free) (hS : va_S (fun q => base ≤ q) s.heap H locs) (hf : ∀ q, free q → base ≤ q)
    (kk : ∀ (r : Option pm_V) (τ : pm_H) (H1 : Heap) (locs1 : List Loc), post r τ → pm_wr D Y b base n2 τ H1 → va_S (fun q => base ≤ q) s.heap H1 locs1 → W p l e R s m args below meth cd H1 locs1 (cells + mc) (slots + ms) Q (F0 m (pc + 3) ls ((r.map (pm_c b base)).toList ++ rest))) :
    W p l e R s m args below meth cd H locs cells slots Q (F0 m pc ls st0) := by
  intro T hT X
  obtain ⟨v, st₀, t, T', L, h0, X', hL, e1, e2, ⟨⟨r, τ, hv, hp, hw⟩, hz, hk⟩, st⟩ := hr T hT X
  cases hv
  rw [h0] at hz hk
  obtain ⟨t2, a1, b1⟩ := kk r τ T'.heap (locs ++ L) hp (by rw [e1]; exact hw)
    ⟨Nat.le_trans hS.1 (by rw [e1]; exact hz), fun q h1 h2 => by rw [e1, hk q (Nat.lt_of_lt_of_le h1 hS.1) h2]; exact hS.2.1 q h1 h2, fun q hq => by
      rcases List.mem_append.mp hq with h | h
      · exact hS.2.2 q h
      · exact hf _ (hL q h)⟩ T' rfl X'
  exact ⟨t2, st t2 a1, b1⟩
theorem pm_catS (st : List pm_V) : ((st.map (pm_c b base)).map fun v => v.category).sum = pm_cat st := by
  induction st with
  | nil => rfl
  | cons v st ih =>
    rw [List.map_cons, List.map_cons, List.sum_cons, ih]
    rcases v with x | x | x <;> rfl
theorem pm_retS (r : Option pm_V) (st : List pm_V) : (r.toList ++ st).map (pm_c b base) = (r.map (pm_c b base)).toList ++ st.map (pm_c b base) := by
  cases r <;> rfl
theorem pm_pay {y : MethodName} {cc : ByteArray} {mL : Nat} {rt : Option FieldType} (hts : ∀ w ∈ lw_tbl, goodWord w = true → w.before args s = true) (hc : Cond.code y cc mL rt ∈ lw_tbl) : ∀ w ∈ pm_W y cc mL rt, ∀ (a' : Array Value) (U : State), s.WarmedH U.vm → w.before a' U = true := by
  intro w hw a' U hW
  have hm : w ∈ lw_tbl ∧ goodWord w = true := by
    rcases List.mem_cons.mp hw with h | h
    · subst h
      exact ⟨hc, rfl⟩
    · exact ⟨(List.mem_filter.mp h).1, (List.mem_filter.mp h).2⟩
  exact word_at hW (good_of_word hm.2) (hts w hm.1 hm.2)
theorem pm_blind {b base n : Nat} {σ : pm_H} {av : List Value} : FrameBlind (va_Pc av (pm_B D Y b base n σ)) := by
  intro a U g mk q
  exact ⟨q.1, q.2.1, va_K.moved (u := U) (U := U.calling g mk a) (Vm.Alike.refl U.vm) q.2.2.1, pm_nest_same (u := U) (U := U.calling g mk a) rfl q.2.2.2⟩
theorem pm_cls2_of {s : String} (h : pm_cls2 s = true) : s ≠ "java/lang/invoke/MethodHandle" ∧ s ≠ "java/lang/invoke/VarHandle" := by
  unfold pm_cls2 at h
  simp only [Bool.and_eq_true, decide_eq_true_eq] at h
  exact h
theorem pm_np_of {d : String} {k : Nat} (h : pm_np d = some k) {sig} (hs : parseMethodDescriptor d = some sig) : k = sig.parameters.length := by
  unfold pm_np at h
  rw [hs] at h
  exact (Option.some.inj h).symm
theorem pw_iv (C : pm_CX p R s m args meth cd D Y b base n0 maxL E) : pm_R_iv E (pm_GC p l e R s m args below meth cd Q D Y b base n0 maxL E) := by
  intro pc L st n σ y cc2 mL rt f2 al pre po idx c ci nf as k0 k1 k2 k3 k4 k5 k6 k7 k8 h0 h1 hL ls H locs hs hw hl hW hS
  obtain ⟨hx, hb, hml, hown, hts, hK, hN, hbs, ⟨hf1, hf2, hf3, hf4, hf5⟩, hini, hsc⟩ := id C
  obtain ⟨kf1, kf2, kf3⟩ := k5
  have hM := k1.2 l D Y b base n (.inr (.inr (c, 0)) :: as) σ k7
  have s2 := pm_ss_le (show n0 ≤ n from h0) (by omega)
  have s3 := pm_ss_le kf3 hf5
  have s4 := pm_ss_le (show n ≤ n + al by omega) (by omega)
  have hTB : ∀ w ∈ pm_TB, w.before args s = true := fun w hw => hts w (List.mem_filter.mp hw).1 (List.mem_filter.mp hw).2
  have hcd := hts _ k1.1 rfl
  have hroom : 2 * (F0 m pc ls ([] : List Value)).monitorRoom + ((st.map (pm_c b base)).map fun v => v.category).sum ≤ 8 := lv_room (by rw [pm_catS]; exact k6)
  obtain ⟨m1, m2, m3, m4, m5, m6⟩ := k2
  obtain ⟨g1, g2⟩ := k3
  have hl67 := pm_kd_lt g1 (by omega)
  have ha := pm_at1 (Y := Y) (b := b) (base := base) (σ := σ) g1 (by omega) k4
  rw [pm_ce0 g1] at ha
  have ea : pm_c b base (.inr (.inr (c, 0))) = .ref (base + pm_pos c) := congrArg Value.ref (pm_ad1 g1 (by omega) 0)
  obtain ⟨r9, hr9, -⟩ := hW.2 _ _ ha
  have hrc : r9.1 = y.cls := by
    unfold pm_cls at g2
    rw [hr9] at g2
    exact g2
  have hrun : va_Run p l e R s m args below meth cd H locs (n - n0) (pm_ss n - pm_ss n0) al (pm_ss (n + al) - pm_ss n) (F0 m pc ls ((as.reverse ++ .inr (.inr (c, 0)) :: st).map (pm_c b base))) (st.map (pm_c b base)) (pm_Q D Y b base (n + al) (po (.inr (.inr (c, 0)) :: as) n σ) (Value.ref (base + pm_pos c) :: as.map (pm_c b base)).toArray) (fun q => base ≤ q) := va_runV (g := F0 m pc ls ((as.reverse ++ .inr (.inr (c, 0)) :: st).map (pm_c b base))) (As := as.map (pm_c b base)) (rest := st.map (pm_c b base)) (locs := locs) (cells := n - n0) (slots := pm_ss n - pm_ss n0) (b := base + pm_pos c) (C := y.cls) (H := H) ⟨hx, hb, hml, hown, hTB⟩ hM
    (⟨⟨rfl, rfl, by show f2 + 1 ≤ _; omega, by show 8 + (mL + 11) + 31 * f2 ≤ _; omega, pm_pay hts k1.1, List.mem_cons_self, hcd, hts _ m4 rfl, pm_cls2_of m6, fun sig hsig => pm_np_of m5 hsig, hts _ m1 rfl⟩, hts _ m2 rfl, hts _ m3 rfl⟩ : CallW R s args E.1 y.cls idx y cc2 mL rt (pm_W y cc2 mL rt) (pm_rm f2 al n) al (pm_ss (n + al) - pm_ss n) as.length)
    ⟨pm_blind, by rw [← hrc]; exact va_recv hK hW.2 hr9 ha, fun U hU hWm => ⟨by rw [List.map_cons, ea], by rw [hU]; exact hW, va_K.moved hWm.alike hK, pm_nest_moved hWm hN⟩⟩ rfl (List.length_map _) hs (by rw [List.map_append, List.map_reverse, List.map_cons, ea]) hroom k0 ⟨by omega, by omega⟩
  refine pm_callQ hrun hS (fun q h => h) (fun r τ H1 locs1 hp hw1 hS1 => ?_)
  have h2 := k8 r τ hp (by omega) kf3 hL ls H1 locs1 hs hw hl hw1 hS1
  rw [pm_retS, show n + al - n0 = n - n0 + al by omega, show pm_ss (n + al) - pm_ss n0 = pm_ss n - pm_ss n0 + (pm_ss (n + al) - pm_ss n) by omega] at h2
  exact h2
theorem pw_is (C : pm_CX p R s m args meth cd D Y b base n0 maxL E) : pm_R_is E (pm_GC p l e R s m args below meth cd Q D Y b base n0 maxL E) := by
  intro pc L st n σ y cc2 mL rt f2 al pre po idx as k0 k1 k2 k3 k4 k5 k6 h0 h1 hL ls H locs hs hw hl hW hS
  obtain ⟨hx, hb, hml, hown, hts, hK, hN, hbs, ⟨hf1, hf2, hf3, hf4, hf5⟩, hini, hsc⟩ := id C
  obtain ⟨kf1, kf2, kf3⟩ := k3
  have hM := k1.2 l D Y b base n as σ k5
  have s2 := pm_ss_le (show n0 ≤ n from h0) (by omega)
  have s3 := pm_ss_le kf3 hf5
  have s4 := pm_ss_le (show n ≤ n + al by omega) (by omega)
  have hTB : ∀ w ∈ pm_TB, w.before args s = true := fun w hw => hts w (List.mem_filter.mp hw).1 (List.mem_filter.mp hw).2
  have hcd := hts _ k1.1 rfl
  have hroom : 2 * (F0 m pc ls ([] : List Value)).monitorRoom + ((st.map (pm_c b base)).map fun v => v.category).sum ≤ 8 := lv_room (by rw [pm_catS]; exact k4)
  obtain ⟨m1, m2, m4, m5, m6⟩ := k2
  have hrun : va_Run p l e R s m args below meth cd H locs (n - n0) (pm_ss n - pm_ss n0) al (pm_ss (n + al) - pm_ss n) (F0 m pc ls ((as.reverse ++ st).map (pm_c b base))) (st.map (pm_c b base)) (pm_Q D Y b base (n + al) (po as n σ) (as.map (pm_c b base)).toArray) (fun q => base ≤ q) := by
    rcases m1 with m1 | m1
    · exact va_runS (g := F0 m pc ls ((as.reverse ++ st).map (pm_c b base))) (As := as.map (pm_c b base)) (rest := st.map (pm_c b base)) ⟨hx, hb, hml, hown, hTB⟩ hM
        (⟨⟨rfl, rfl, by show f2 + 1 ≤ _; omega, by show 8 + (mL + 11) + 31 * f2 ≤ _; omega, pm_pay hts k1.1, List.mem_cons_self, hcd, hts _ m4 rfl, pm_cls2_of m6, fun sig hsig => pm_np_of m5 hsig, hts _ m1 rfl⟩, hts _ m2 rfl⟩ : CallB R s args E.1 idx y cc2 mL rt (pm_W y cc2 mL rt) (pm_rm f2 al n) al (pm_ss (n + al) - pm_ss n) as.length ∧ (Cond.static y).before args s = true)
        ⟨pm_blind, fun U hU hWm => ⟨rfl, by rw [hU]; exact hW, va_K.moved hWm.alike hK, pm_nest_moved hWm hN⟩⟩ rfl (List.length_map _) hs (by rw [List.map_append, List.map_reverse]) hroom k0 ⟨by omega, by omega⟩
    · have hnw := hN.1 _ (List.mem_append_right _ m1)
      exact va_runSN (host := "LaneWishes") (g := F0 m pc ls ((as.reverse ++ st).map (pm_c b base))) (As := as.map (pm_c b base)) (rest := st.map (pm_c b base)) ⟨hx, hb, hml, hown, hTB⟩ hM
        (⟨⟨⟨rfl, rfl, by show f2 + 1 ≤ _; omega, by show 8 + (mL + 11) + 31 * f2 ≤ _; omega, pm_pay hts k1.1, List.mem_cons_self⟩, hcd, hts _ m4 rfl, pm_cls2_of m6, fun sig hsig => pm_np_of m5 hsig, va_Nw.use rfl hnw⟩, hts _ m2 rfl, trivial⟩ : va_CN R s args E.1 idx y "LaneWishes" cc2 mL rt (pm_W y cc2 mL rt) (pm_rm f2 al n) al (pm_ss (n + al) - pm_ss n) as.length ∧ (Cond.static y).before args s = true ∧ True)
        ⟨pm_blind, fun U hU hWm => ⟨rfl, by rw [hU]; exact hW, va_K.moved hWm.alike hK, pm_nest_moved hWm hN⟩⟩ rfl (List.length_map _) hs (by rw [List.map_append, List.map_reverse]) hroom k0 ⟨by omega, by omega⟩
  refine pm_callQ hrun hS (fun q h => h) (fun r τ H1 locs1 hp hw1 hS1 => ?_)
  have h2 := k6 r τ hp (by omega) kf3 hL ls H1 locs1 hs hw hl hw1 hS1
  rw [pm_retS, show n + al - n0 = n - n0 + al by omega, show pm_ss (n + al) - pm_ss n0 = pm_ss n - pm_ss n0 + (pm_ss (n + al) - pm_ss n) by omega] at h2
  exact h2
theorem pw_isp (C : pm_CX p R s m args meth cd D Y b base n0 maxL E) : pm_R_isp E (pm_GC p l e R s m args below meth cd Q D Y b base n0 maxL E) := by
  intro pc L st n σ y cc2 mL rt f2 al pre po idx c ci nf as k0 k1 k2 k3 k4 k5 k6 k7 k8 k9 h0 h1 hL ls H locs hs hw hl hW hS
  obtain ⟨hx, hb, hml, hown, hts, hK, hN, hbs, ⟨hf1, hf2, hf3, hf4, hf5⟩, hini, hsc⟩ := id C
  obtain ⟨kf1, kf2, kf3⟩ := k6
  have hM := k1.2 l D Y b base n (.inr (.inr (c, 0)) :: as) σ k8
  have s2 := pm_ss_le (show n0 ≤ n from h0) (by omega)
  have s3 := pm_ss_le kf3 hf5
  have s4 := pm_ss_le (show n ≤ n + al by omega) (by omega)
  have hTB : ∀ w ∈ pm_TB, w.before args s = true := fun w hw => hts w (List.mem_filter.mp hw).1 (List.mem_filter.mp hw).2
  have hcd := hts _ k1.1 rfl
  have hroom : 2 * (F0 m pc ls ([] : List Value)).monitorRoom + ((st.map (pm_c b base)).map fun v => v.category).sum ≤ 8 := lv_room (by rw [pm_catS]; exact k7)
  obtain ⟨m1, m2, m4, mi, m5, m6⟩ := k2
  have g1 := k4
  have ea : pm_c b base (.inr (.inr (c, 0))) = .ref (base + pm_pos c) := congrArg Value.ref (pm_ad1 g1 (by omega) 0)
  subst k3
  have hrun : va_Run p l e R s m args below meth cd H locs (n - n0) (pm_ss n - pm_ss n0) al (pm_ss (n + al) - pm_ss n) (F0 m pc ls ((as.reverse ++ .inr (.inr (c, 0)) :: st).map (pm_c b base))) (st.map (pm_c b base)) (pm_Q D Y b base (n + al) (po (.inr (.inr (c, 0)) :: as) n σ) (Value.ref (base + pm_pos c) :: as.map (pm_c b base)).toArray) (fun q => base ≤ q) := by
    rw [List.map_cons, ea] at hM
    rcases m1 with m1 | m1
    · exact va_runI (g := F0 m pc ls ((as.reverse ++ .inr (.inr (c, 0)) :: st).map (pm_c b base))) (As := as.map (pm_c b base)) (rest := st.map (pm_c b base)) (locs := locs) (cells := n - n0) (slots := pm_ss n - pm_ss n0) (b := base + pm_pos c) (H := H) ⟨hx, hb, hml, hown, hTB⟩ hM
        (⟨⟨rfl, rfl, by show f2 + 1 ≤ _; omega, by show 8 + (mL + 11) + 31 * f2 ≤ _; omega, pm_pay hts k1.1, List.mem_cons_self, hcd, hts _ m4 rfl, pm_cls2_of m6, fun sig hsig => pm_np_of m5 hsig, hts _ m1 rfl⟩, mi, hts _ m2 rfl⟩ : CallB R s args E.1 idx y cc2 mL none (pm_W y cc2 mL none) (pm_rm f2 al n) al (pm_ss (n + al) - pm_ss n) as.length ∧ y.name = "<init>" ∧ (Cond.instanceMethod y).before args s = true)
        ⟨pm_blind, fun U hU hWm => ⟨rfl, by rw [hU]; exact hW, va_K.moved hWm.alike hK, pm_nest_moved hWm hN⟩⟩ rfl (List.length_map _) hs (by rw [List.map_append, List.map_reverse, List.map_cons, ea]) hroom k0 ⟨by omega, by omega⟩
    · have hnw := hN.1 _ (List.mem_append_left _ m1)
      exact va_runIN (host := "LaneWishes") (g := F0 m pc ls ((as.reverse ++ .inr (.inr (c, 0)) :: st).map (pm_c b base))) (As := as.map (pm_c b base)) (rest := st.map (pm_c b base)) (locs := locs) (cells := n - n0) (slots := pm_ss n - pm_ss n0) (b := base + pm_pos c) (H := H) ⟨hx, hb, hml, hown, hTB⟩ hM
        (⟨⟨⟨rfl, rfl, by show f2 + 1 ≤ _; omega, by show 8 + (mL + 11) + 31 * f2 ≤ _; omega, pm_pay hts k1.1, List.mem_cons_self⟩, hcd, hts _ m4 rfl, pm_cls2_of m6, fun sig hsig => pm_np_of m5 hsig, va_Nw.use rfl hnw⟩, mi, hts _ m2 rfl⟩ : va_CN R s args E.1 idx y "LaneWishes" cc2 mL none (pm_W y cc2 mL none) (pm_rm f2 al n) al (pm_ss (n + al) - pm_ss n) as.length ∧ y.name = "<init>" ∧ (Cond.instanceMethod y).before args s = true)
        ⟨pm_blind, fun U hU hWm => ⟨rfl, by rw [hU]; exact hW, va_K.moved hWm.alike hK, pm_nest_moved hWm hN⟩⟩ rfl (List.length_map _) hs (by rw [List.map_append, List.map_reverse, List.map_cons, ea]) hroom k0 ⟨by omega, by omega⟩
  refine pm_callQ hrun hS (fun q h => h) (fun r τ H1 locs1 hp hw1 hS1 => ?_)
  have h2 := k9 r τ hp (by omega) kf3 hL ls H1 locs1 hs hw hl hw1 hS1
  rw [pm_retS, show n + al - n0 = n - n0 + al by omega, show pm_ss (n + al) - pm_ss n0 = pm_ss n - pm_ss n0 + (pm_ss (n + al) - pm_ss n) by omega] at h2
  exact h2
theorem pw_obj (C : pm_CX p R s m args meth cd D Y b base n0 maxL E) : pm_R_obj E (pm_GC p l e R s m args below meth cd Q D Y b base n0 maxL E) := by
  intro pc L st n σ idx q k0 k1 k2 k3 k4 h0 h1 hL ls H locs hs hw hl hW hS
  obtain ⟨hx, hb, hml, hown, hts, hK, hN, hbs, ⟨hf1, hf2, hf3, hf4, hf5⟩, hini, hsc⟩ := id C
  have h2 := k4 h0 h1 hL ls H locs hs hw hl hW hS
  have h8 : 2 * (F0 m pc ls ([] : List Value)).monitorRoom + ((st.map (pm_c b base)).map fun v => v.category).sum ≤ 8 := lv_room (by rw [pm_catS]; exact k3)
  exact W.objInit (g := F0 m pc ls (List.map (pm_c b base) (.inr (.inr q) :: st))) hx hb hown (hts _ k1 rfl) (hts _ (by decide +kernel) rfl) (hts _ pm_code_obj rfl) rfl (hs.trans hml.symm) rfl k0 (by omega) (by
    have h9 : (F0 m pc ls (List.map (pm_c b base) (.inr (.inr q) :: st))).monitorRoom = (F0 m pc ls ([] : List Value)).monitorRoom := rfl
    omega) h2
theorem pw_max (C : pm_CX p R s m args meth cd D Y b base n0 maxL E) : pm_R_max E (pm_GC p l e R s m args below meth cd Q D Y b base n0 maxL E) := by
  intro pc L st n σ idx x y k0 k1 k2 k3 k4 k5 h0 h1 hL ls H locs hs hw hl hW hS
  obtain ⟨hx, hb, hml, hown, hts, hK, hN, hbs, ⟨hf1, hf2, hf3, hf4, hf5⟩, hini, hsc⟩ := id C
  refine va_mmax hx hb (hml.trans hs.symm) hown (hts _ k1 rfl) (hts _ (by decide +kernel) rfl) (hts _ (by decide +kernel) rfl) (hts _ pm_code_max rfl) (by omega) (by rw [pm_catS]; omega) (by omega) (by have := pm_ss_le h1 hf5; omega) k0 ?_
  by_cases q : x < y
  · rw [if_pos ((pm_ltI k4.1 k4.2).mpr q)]
    exact k5 y (Or.inl ⟨q, rfl⟩) h0 h1 hL ls H locs hs hw hl hW hS
  · rw [if_neg (fun z => q ((pm_ltI k4.1 k4.2).mp z))]
    exact k5 x (Or.inr ⟨by omega, rfl⟩) h0 h1 hL ls H locs hs hw hl hW hS
end PW4
