/-! ===== new cells, calls, ends over the machine ===== -/
section PW3
variable {p : Program} {l : Launch} {e : Env} {R : Room} {s : State} {m : MethodId} {args : Array Value} {below : List Frame} {meth : Method} {c : Code} {Q : State → Prop} {D : va_G} {Y : pm_Y} {b base n0 maxL : Nat} {E : pm_E}

theorem pm_AO_use {ty : FieldType} {A : Array Value} {U : State} (h : pm_AO ty U) : (Cond.arrayOver (.array ty)).before A U = true := h
theorem pm_AO_of {ty : FieldType} {A : Array Value} {U : State} (h : (Cond.arrayOver (.array ty)).before A U = true) : pm_AO ty U := h
theorem pm_AO_moved {ty : FieldType} {u U : State} (hvm : u.vm.Alike U.vm) (h : pm_AO ty u) : pm_AO ty U := by
  have h2 : (Cond.arrayOver (.array ty)).before #[] (u.setVm U.vm) = true := by
    rw [Cond.arrayOver_setVmC hvm]
    exact h
  exact h2
/-- slots of a cell -/
def pm_sz (k : Nat) : Nat := match pm_kd (pm_ph k).1 with
  | (0, _, N) => N
  | (1, N, _) => N
  | (2, N, _) => N
  | (3, N, _) => N
  | (_, M, N) => if (pm_ph k).2 < 0 then M else N
theorem pm_ss_1 : ∀ k, k < 122 → pm_ss (k + 1) = pm_ss k + pm_sz k := by decide +kernel
theorem pm_ss_le {a b : Nat} (h : a ≤ b) (hb : b ≤ 122) : pm_ss a ≤ pm_ss b := by
  induction b with
  | zero => rw [show a = 0 by omega]; exact Nat.le_refl _
  | succ b ih =>
    rcases Nat.lt_or_ge b a with q | q
    · rw [show a = b + 1 by omega]; exact Nat.le_refl _
    · have h1 := ih q (by omega)
      have h2 := pm_ss_1 b (by omega)
      omega
theorem pm_nf : ∀ c, c < 67 → (pm_kd c).1 = 0 → (vwCl.getD (pm_kd c).2.1 (RX0, TX0, 0)).2.2 = (pm_fs c).length ∧ (pm_kd c).2.2 = (pm_fs c).length ∧ pm_sz (pm_pos c) = (pm_fs c).length := by decide +kernel
theorem pm_dfr (ty : FieldType) (h : ty.isReference = true) : defaultValue ty = .null := by
  cases ty <;> first | rfl | cases h
theorem pm_wr_more {D : va_G} {Y : pm_Y} {b base n k : Nat} {σ : pm_H} {H H1 : Heap} (hW : pm_wr D Y b base n σ H) (hz : H1.size = H.size + k) (oq : ∀ q, q < H.size → H1[q]? = H[q]?)
    (hc : ∀ j, n ≤ j → j < n + k → va_at D vwCl (base + j, pm_ce Y b base σ (pm_ph j).1 (pm_ph j).2) H1) : pm_wr D Y b base (n + k) σ H1 := by
  refine ⟨by rw [hz, hW.1]; omega, fun j q hq => ?_⟩
  have hj : j < n + k := by
    have := (List.getElem?_eq_some_iff.mp hq).1
    rwa [pm_ws_len] at this
  rw [pm_ws_get hj] at hq
  cases hq
  rcases Nat.lt_or_ge j n with e | e
  · have h1 := hW.2 j _ (pm_ws_get e)
    exact h1.kept (oq _ h1.lt)
  · exact hc j e hj
theorem pm_S_more {A : Nat → Prop} {H0 H H1 : Heap} {locs : List Loc} (hS : va_S A H0 H locs) (hz : H.size ≤ H1.size) (oq : ∀ q, q < H.size → H1[q]? = H[q]?) : va_S A H0 H1 locs :=
  ⟨Nat.le_trans hS.1 hz, fun x h1 h2 => (oq x (Nat.lt_of_lt_of_le h1 hS.1)).trans (hS.2.1 x h1 h2), hS.2.2⟩
theorem pm_fi0 {σ : pm_H} {c : Nat} {r : Int} (h : ∀ r i, σ c r i = 0) : pm_fi σ c r = fun _ => 0 := funext fun j => by unfold pm_fi; rw [h]; rfl
theorem pm_fj0 {σ : pm_H} {c : Nat} {r : Int} (h : ∀ r i, σ c r i = 0) : pm_fj σ c r = fun _ => 0 := funext fun j => by unfold pm_fj; rw [h]; rfl
theorem pw_new (C : pm_CX p R s m args meth c D Y b base n0 maxL E) : pm_R_new E (pm_GC p l e R s m args below meth c Q D Y b base n0 maxL E) := by
  intro pc L st n σ idx c ci nf k0 k1 k2 k3 k4 k5 h0 h1 hL ls H locs hs hw hl hW hS
  obtain ⟨hx, hb, hml, hown, hts, hK, hN, hbs, ⟨hf1, hf2, hf3, hf4, hf5⟩, hini, hsc⟩ := id C
  obtain ⟨g1, g2⟩ := k1
  have hl67 := pm_kd_lt g1 (by omega)
  have h4 : (pm_kd c).1 < 4 := by rw [g1]; exact (by decide : (0 : Nat) < 4)
  have hp := pm_ph1 c hl67 h4
  rw [k2] at hp
  unfold pm_NWb at g2
  cases hr : vwCl[ci]? with
  | none => rw [hr] at g2; cases g2
  | some r =>
    rw [hr] at g2
    simp only [Bool.and_eq_true, decide_eq_true_eq] at g2
    obtain ⟨⟨m1, m2⟩, m3⟩ := g2
    have htb : ∀ w ∈ u_ws r.1 r.2.1 r.2.2, w.before args s = true := fun w hw => hts w (pm_cl_get hr w hw).1 (pm_cl_get hr w hw).2
    have hKn := hK.1 ci _ hr
    obtain ⟨f1, f2, f3⟩ := pm_nf c hl67 (by rw [g1])
    rw [g1] at f1
    simp only [List.getD_eq_getElem?_getD, hr, Option.getD_some] at f1
    rw [k2] at f3
    have s1 := pm_ss_1 n (by omega)
    have s2 := pm_ss_le (show n0 ≤ n from h0) (by omega)
    have s3 := pm_ss_le k3 hf5
    refine W.newcK hx hb hown (hts _ m1 rfl) (hts _ m2 rfl) (hts _ m3 rfl) rfl k0 (by omega) (by omega) hKn.2.1 hW.1 fun H1 kC hkC e1 z1 o1 => ?_
    rw [← hW.1] at z1 o1
    have hW1 : pm_wr D Y b base (n + 1) σ H1 := pm_wr_more hW z1 o1 (fun j j1 j2 => by
      have hj : j = n := by omega
      subst hj
      rw [hp, pm_ce0 g1]
      refine ⟨r, hr, (u_born (pm_ty ci) htb (fun w hw => hw) hKn hkC e1 (pm_ty_ok hr).1).to (fun i hi => ?_)⟩
      have hi2 : i < (pm_fs c).length := by omega
      have hi3 : (pm_fs c)[i]? = some (pm_fs c)[i] := List.getElem?_eq_getElem hi2
      have hi31 : i < 31 := Nat.lt_trans hi2 (pm_fl31 c hl67)
      unfold vp_V
      rw [List.getD_eq_getElem?_getD, pm_fd_at hi3]
      cases hf : (pm_fs c)[i] with
      | none =>
        rw [hf] at hi3
        have ht := pm_ft c hl67 i hi31 (by rw [g1]) (by rw [hi3]; rfl)
        rw [g1] at ht
        show defaultValue (pm_ty ci i) = Value.int (Int32.ofInt (σ c 0 i))
        rw [ht, k4]
        rfl
      | some q =>
        rw [hf] at hi3
        have ht := pm_fr c hl67 i hi31 (by rw [g1]) (by rw [hi3]; rfl)
        rw [g1] at ht
        show defaultValue (pm_ty ci i) = (if σ c 1 i = 1 then _ else Value.null)
        rw [pm_dfr _ ht, k4, if_neg (by omega)])
    have h2 := k5 (by omega) k3 hL ls H1 locs hs hw hl hW1 (pm_S_more hS (by omega) o1)
    rw [show n + 1 - n0 = n - n0 + 1 by omega, show pm_ss (n + 1) - pm_ss n0 = pm_ss n - pm_ss n0 + r.2.2 by omega] at h2
    have ec : pm_c b base (.inr (.inr (c, 0))) = .ref (base + n) := by
      rw [← k2]
      exact congrArg Value.ref (pm_ad1 g1 (by omega) 0)
    rw [List.map_cons, ec] at h2
    exact h2
theorem pw_newI (C : pm_CX p R s m args meth c D Y b base n0 maxL E) : pm_R_newI E (pm_GC p l e R s m args below meth c Q D Y b base n0 maxL E) := by
  intro pc L st n σ c N k0 k1 k2 k3 k4 k5 k6 h0 h1 hL ls H locs hs hw hl hW hS
  obtain ⟨hx, hb, hml, hown, hts, hK, hN, hbs, ⟨hf1, hf2, hf3, hf4, hf5⟩, hini, hsc⟩ := id C
  have hl67 := pm_kd_lt k1 (by omega)
  have h4 : (pm_kd c).1 < 4 := by rw [k1]; exact (by decide : (1 : Nat) < 4)
  have hp := pm_ph1 c hl67 h4
  rw [k2] at hp
  have s1 := pm_ss_1 n (by omega)
  have s4 : pm_sz n = N := by
    unfold pm_sz
    rw [hp]
    dsimp only
    rw [k1]
    rfl
  have s2 := pm_ss_le (show n0 ≤ n from h0) (by omega)
  have s3 := pm_ss_le k3 hf5
  have hm : Cond.arrayClass .int ∈ lw_tbl := by decide +kernel
  have hcl : (Int32.ofInt (N : Int)).toNatClampNeg = N := by
    rw [Int32.toNatClampNeg_ofInt_of_le (by omega) (by omega)]
    omega
  have hnn : ¬ Int32.ofInt (N : Int) < 0 := fun z => by
    have := (pm_ltI ⟨by omega, by omega⟩ pm_in0).mp z
    omega
  refine va_newaK (atype := .int) hx hb (hts _ hm rfl) rfl k0 rfl hnn hcl (Nat.le_trans (Nat.mul_le_mul k5 (show componentBytes .int ≤ 8 by decide)) (by decide)) (by omega) (by omega) hW.1 fun H1 cA e1 z1 o1 hAr hNm => ?_
  rw [← hW.1] at z1 o1
  have hcA : cA = Y.1 := by
    have h9 := (hK.2 0 _ rfl).2
    exact Option.some.inj (hNm.symm.trans h9)
  subst hcA
  have hW1 : pm_wr D Y b base (n + 1) σ H1 := pm_wr_more hW z1 o1 (fun j j1 j2 => by
    have hj : j = n := by omega
    subst hj
    rw [hp, pm_ce1 k1, pm_fi0 k4]
    exact e1)
  have h2 := k6 (by omega) k3 hL ls H1 locs hs hw hl hW1 (pm_S_more hS (by omega) o1)
  rw [show n + 1 - n0 = n - n0 + 1 by omega, show pm_ss (n + 1) - pm_ss n0 = pm_ss n - pm_ss n0 + N by omega] at h2
  have ec : pm_c b base (.inr (.inr (c, 0))) = .ref (base + n) := by
    rw [← k2]
    exact congrArg Value.ref (pm_ad1 k1 (by omega) 0)
  rw [List.map_cons, ec] at h2
  exact h2
theorem pw_newJ (C : pm_CX p R s m args meth c D Y b base n0 maxL E) : pm_R_newJ E (pm_GC p l e R s m args below meth c Q D Y b base n0 maxL E) := by
  intro pc L st n σ c N k0 k1 k2 k3 k4 k5 k6 h0 h1 hL ls H locs hs hw hl hW hS
  obtain ⟨hx, hb, hml, hown, hts, hK, hN, hbs, ⟨hf1, hf2, hf3, hf4, hf5⟩, hini, hsc⟩ := id C
  have hl67 := pm_kd_lt k1 (by omega)
  have h4 : (pm_kd c).1 < 4 := by rw [k1]; exact (by decide : (2 : Nat) < 4)
  have hp := pm_ph1 c hl67 h4
  rw [k2] at hp
  have s1 := pm_ss_1 n (by omega)
  have s4 : pm_sz n = N := by
    unfold pm_sz
    rw [hp]
    dsimp only
    rw [k1]
    rfl
  have s2 := pm_ss_le (show n0 ≤ n from h0) (by omega)
  have s3 := pm_ss_le k3 hf5
  have hm : Cond.arrayClass .long ∈ lw_tbl := by decide +kernel
  have hcl : (Int32.ofInt (N : Int)).toNatClampNeg = N := by
    rw [Int32.toNatClampNeg_ofInt_of_le (by omega) (by omega)]
    omega
  have hnn : ¬ Int32.ofInt (N : Int) < 0 := fun z => by
    have := (pm_ltI ⟨by omega, by omega⟩ pm_in0).mp z
    omega
  refine va_newaK (atype := .long) hx hb (hts _ hm rfl) rfl k0 rfl hnn hcl (Nat.le_trans (Nat.mul_le_mul k5 (show componentBytes .long ≤ 8 by decide)) (by decide)) (by omega) (by omega) hW.1 fun H1 cA e1 z1 o1 hAr hNm => ?_
  rw [← hW.1] at z1 o1
  have hcA : cA = Y.2.1 := by
    have h9 := (hK.2 1 _ rfl).2
    exact Option.some.inj (hNm.symm.trans h9)
  subst hcA
  have hW1 : pm_wr D Y b base (n + 1) σ H1 := pm_wr_more hW z1 o1 (fun j j1 j2 => by
    have hj : j = n := by omega
    subst hj
    rw [hp, pm_ce2 k1, pm_fj0 k4]
    exact e1)
  have h2 := k6 (by omega) k3 hL ls H1 locs hs hw hl hW1 (pm_S_more hS (by omega) o1)
  rw [show n + 1 - n0 = n - n0 + 1 by omega, show pm_ss (n + 1) - pm_ss n0 = pm_ss n - pm_ss n0 + N by omega] at h2
  have ec : pm_c b base (.inr (.inr (c, 0))) = .ref (base + n) := by
    rw [← k2]
    exact congrArg Value.ref (pm_ad1 k1 (by omega) 0)
  rw [List.map_cons, ec] at h2
  exact h2
theorem pw_newZ (C : pm_CX p R s m args meth c D Y b base n0 maxL E) : pm_R_newZ E (pm_GC p l e R s m args below meth c Q D Y b base n0 maxL E) := by
  intro pc L st n σ c N k0 k1 k2 k3 k4 k5 k6 h0 h1 hL ls H locs hs hw hl hW hS
  obtain ⟨hx, hb, hml, hown, hts, hK, hN, hbs, ⟨hf1, hf2, hf3, hf4, hf5⟩, hini, hsc⟩ := id C
  have hl67 := pm_kd_lt k1 (by omega)
  have h4 : (pm_kd c).1 < 4 := by rw [k1]; exact (by decide : (3 : Nat) < 4)
  have hp := pm_ph1 c hl67 h4
  rw [k2] at hp
  have s1 := pm_ss_1 n (by omega)
  have s4 : pm_sz n = N := by
    unfold pm_sz
    rw [hp]
    dsimp only
    rw [k1]
    rfl
  have s2 := pm_ss_le (show n0 ≤ n from h0) (by omega)
  have s3 := pm_ss_le k3 hf5
  have hm : Cond.arrayClass .boolean ∈ lw_tbl := by decide +kernel
  have hcl : (Int32.ofInt (N : Int)).toNatClampNeg = N := by
    rw [Int32.toNatClampNeg_ofInt_of_le (by omega) (by omega)]
    omega
  have hnn : ¬ Int32.ofInt (N : Int) < 0 := fun z => by
    have := (pm_ltI ⟨by omega, by omega⟩ pm_in0).mp z
    omega
  refine va_newaK (atype := .boolean) hx hb (hts _ hm rfl) rfl k0 rfl hnn hcl (Nat.le_trans (Nat.mul_le_mul k5 (show componentBytes .boolean ≤ 8 by decide)) (by decide)) (by omega) (by omega) hW.1 fun H1 cA e1 z1 o1 hAr hNm => ?_
  rw [← hW.1] at z1 o1
  have hcA : cA = Y.2.2.1 := by
    have h9 := (hK.2 2 _ rfl).2
    exact Option.some.inj (hNm.symm.trans h9)
  subst hcA
  have hW1 : pm_wr D Y b base (n + 1) σ H1 := pm_wr_more hW z1 o1 (fun j j1 j2 => by
    have hj : j = n := by omega
    subst hj
    rw [hp, pm_ce3 k1, pm_fi0 k4]
    exact e1)
  have h2 := k6 (by omega) k3 hL ls H1 locs hs hw hl hW1 (pm_S_more hS (by omega) o1)
  rw [show n + 1 - n0 = n - n0 + 1 by omega, show pm_ss (n + 1) - pm_ss n0 = pm_ss n - pm_ss n0 + N by omega] at h2
  have ec : pm_c b base (.inr (.inr (c, 0))) = .ref (base + n) := by
    rw [← k2]
    exact congrArg Value.ref (pm_ad1 k1 (by omega) 0)
  rw [List.map_cons, ec] at h2
  exact h2
theorem pm_outer0 (c : ClassId) (N h0 : Nat) : ∀ i : Nat, Jvm.Free.Multi.outerC c N h0 i = arrV c N (fun j => va_rf (if j < i then some (h0 + 1 + j) else none))
  | 0 => by
    show ({ cls := c, slots := Array.replicate N .null, vm := .none } : Cell) = _
    rw [arrV_new]
    refine congrArg (arrV c N) (funext fun j => ?_)
    simp [va_rf]
  | i + 1 => by
    show (Jvm.Free.Multi.outerC c N h0 i).setSlot i (.ref (h0 + 1 + i)) = _
    rw [pm_outer0 c N h0 i, arrV_store]
    refine congrArg (arrV c N) (funext fun j => ?_)
    by_cases e : j = i
    · subst e
      simp [updV, va_rf]
    · by_cases h : j < i
      · simp [updV, e, h, Nat.lt_succ_of_lt h]
      · simp [updV, e, h, show ¬ j < i + 1 by omega]
theorem pm_outer {b base c h0 : Nat} (cA : ClassId) (M : Nat) (h : ∀ i : Nat, i < M → pm_ad b base c (i : Int) = h0 + 1 + i) : Jvm.Free.Multi.outerC cA M h0 M = arrV cA M (fun j => va_rf (pm_fq b base c M j)) := by
  rw [pm_outer0]
  refine congrArg (arrV cA M) (funext fun j => ?_)
  unfold pm_fq
  by_cases q : j < M
  · rw [if_pos q, if_pos q, h j q]
  · rw [if_neg q, if_neg q]
theorem pw_mnaI (C : pm_CX p R s m args meth c D Y b base n0 maxL E) : pm_R_mnaI E (pm_GC p l e R s m args below meth c Q D Y b base n0 maxL E) := by
  intro pc L st n σ idx c M N k0 k1 k2 k3 k4 k5 k6 h0 h1 hL ls H locs hs hw hl hW hS
  obtain ⟨hx, hb, hml, hown, hts, hK, hN, hbs, ⟨hf1, hf2, hf3, hf4, hf5⟩, hini, hsc⟩ := id C
  obtain ⟨g1, g2⟩ := k1
  have hl67 := pm_kd_lt g1 (by omega)
  have h4 : 4 ≤ (pm_kd c).1 := by rw [g1]; exact (by decide : (4 : Nat) ≤ 4)
  obtain ⟨hp0, hp⟩ := pm_ph2 c hl67 h4
  rw [k2] at hp0 hp
  unfold pm_ML at g2
  simp only [Bool.and_eq_true, decide_eq_true_eq] at g2
  obtain ⟨m1, m3⟩ := g2
  have hclp : ∀ z : Nat, z ≤ 1000 → (Int32.ofInt (z : Int)).toNatClampNeg = z := fun z hz => by
    rw [Int32.toNatClampNeg_ofInt_of_le (by omega) (by omega)]
    omega
  have hnn : ∀ z : Nat, z ≤ 1000 → ¬ Int32.ofInt (z : Int) < 0 := fun z hz q => by
    have := (pm_ltI ⟨by omega, by omega⟩ pm_in0).mp q
    omega
  have s0 : pm_ss (n + 1) = pm_ss n + M := by
    have := pm_ss_1 n (by omega)
    rw [this]
    unfold pm_sz
    rw [hp0]
    dsimp only
    rw [g1]
    rfl
  have s1 : ∀ r, r ≤ M → pm_ss (n + 1 + r) = pm_ss n + M + r * N := by
    intro r
    induction r with
    | zero => intro _; rw [Nat.add_zero, s0, Nat.zero_mul, Nat.add_zero]
    | succ r ih =>
      intro hr
      have q1 := pm_ss_1 (n + 1 + r) (by omega)
      have q2 : pm_sz (n + 1 + r) = N := by
        unfold pm_sz
        rw [hp r (by rw [g1]; show r < M; omega)]
        dsimp only
        rw [g1]
        exact if_neg (by omega)
      rw [show n + 1 + (r + 1) = n + 1 + r + 1 by omega, q1, q2, ih (by omega), Nat.succ_mul]
      omega
  have s1M := s1 M (Nat.le_refl M)
  have s2 := pm_ss_le (show n0 ≤ n from h0) (by omega)
  have s3 := pm_ss_le k3 hf5
  intro T hT X
  obtain ⟨vm₁, cA, comp, -, fA, fC, hO, -, X', step⟩ := X.multianewarray2F hx hown (hts _ m1 rfl) (pm_AO_use hN.2.1) (hts _ m3 rfl) (g := F0 m pc ls (.int (Int32.ofInt (N : Int)) :: .int (Int32.ofInt (M : Int)) :: st.map (pm_c b base))) rfl (by rw [hb]; exact k0) rfl (hnn M k5.1) (hnn N k5.2)
    (by rw [hclp M k5.1]; omega) (by rw [hclp N k5.2]; exact Nat.le_trans (Nat.mul_le_mul k5.2 (show componentBytes .int ≤ 8 by decide)) (by decide)) (by rw [hclp N k5.2]; omega) rfl rfl (by rw [hclp M k5.1]; omega) (by rw [hclp M k5.1, hclp N k5.2]; omega)
  rw [hclp M k5.1, hclp N k5.2] at X' step
  have hcomp : comp = Y.1 := Option.some.inj (fC.symm.trans (hK.2 0 _ rfl).2)
  have hcA : cA = Y.2.2.2.1 := Option.some.inj (fA.symm.trans (hK.2 3 _ rfl).2)
  subst hcomp
  subst hcA
  generalize hF : Jvm.Free.Multi.fill (T.setVm vm₁) Y.2.2.2.1 Y.1 M N (defaultValue .int) M = F at X' step
  have hTh : (T.setVm vm₁).heap = H := hT
  obtain ⟨f1, f2, -, -⟩ := Jvm.Free.Multi.fill_facts (T.setVm vm₁) Y.2.2.2.1 Y.1 M N (defaultValue .int) M
  rw [hF, hTh] at f1 f2
  have hold : ∀ x : Nat, x < H.size → F.heap[x]? = H[x]? := fun x hx => by
    have := Jvm.Free.Multi.fill_old (T.setVm vm₁) Y.2.2.2.1 Y.1 M N (defaultValue .int) (a := x) (by rw [hTh]; exact hx) M
    rw [hF, hTh] at this
    exact this
  have hrow : ∀ j : Nat, j < M → F.heap[H.size + 1 + j]? = some (vp_cell Y.1 (N, .inl (fun _ => 0))) := fun j hj => by
    have := Jvm.Free.Multi.fill_inner (T.setVm vm₁) Y.2.2.2.1 Y.1 M N (defaultValue .int) M j hj
    rw [hF, hTh] at this
    rw [this]
    exact congrArg some (arrV_new Y.1 N (defaultValue .int))
  have hW1 : pm_wr D Y b base (n + (1 + M)) σ F.heap := pm_wr_more hW (by rw [f1]; omega) hold (fun j j1 j2 => by
    by_cases hj : j = n
    · subst hj
      rw [hp0, pm_ce4o g1]
      show F.heap[_]? = some (vp_cell _ _)
      rw [← hW.1, f2, vp_cell_q]
      exact congrArg some (pm_outer _ M (fun i hi => by
        rw [pm_ad2 g1 (by omega) (by omega) (by omega), k2, hW.1]
        omega))
    · have e := hp (j - n - 1) (by rw [g1]; show _ < M; omega)
      rw [show n + 1 + (j - n - 1) = j by omega] at e
      rw [e, pm_ce4 g1 (by omega), pm_fi0 k4]
      show F.heap[_]? = some (vp_cell _ _)
      rw [← hrow (j - n - 1) (by omega), hW.1]
      congr 1
      omega)
  have h2 := k6 (by omega) k3 hL ls F.heap locs hs hw hl (by rw [Nat.add_assoc]; exact hW1) (pm_S_more hS (by omega) hold)
  rw [show n + 1 + M - n0 = n - n0 + 1 + M by omega, show pm_ss (n + 1 + M) - pm_ss n0 = pm_ss n - pm_ss n0 + M + M * N by omega] at h2
  have ec : pm_c b base (.inr (.inr (c, -1))) = .ref T.heap.size := by
    rw [hT, hW.1, ← k2]
    exact congrArg Value.ref (pm_ad2o g1 (by omega) (by omega))
  rw [List.map_cons, ec] at h2
  obtain ⟨t, a1, b1⟩ := h2 F rfl X'
  exact ⟨t, step t a1, b1⟩
theorem pw_mnaJ (C : pm_CX p R s m args meth c D Y b base n0 maxL E) : pm_R_mnaJ E (pm_GC p l e R s m args below meth c Q D Y b base n0 maxL E) := by
  intro pc L st n σ idx c M N k0 k1 k2 k3 k4 k5 k6 h0 h1 hL ls H locs hs hw hl hW hS
  obtain ⟨hx, hb, hml, hown, hts, hK, hN, hbs, ⟨hf1, hf2, hf3, hf4, hf5⟩, hini, hsc⟩ := id C
  obtain ⟨g1, g2⟩ := k1
  have hl67 := pm_kd_lt g1 (by omega)
  have h4 : 4 ≤ (pm_kd c).1 := by rw [g1]; exact (by decide : (4 : Nat) ≤ 5)
  obtain ⟨hp0, hp⟩ := pm_ph2 c hl67 h4
  rw [k2] at hp0 hp
  unfold pm_ML at g2
  simp only [Bool.and_eq_true, decide_eq_true_eq] at g2
  obtain ⟨m1, m3⟩ := g2
  have hclp : ∀ z : Nat, z ≤ 1000 → (Int32.ofInt (z : Int)).toNatClampNeg = z := fun z hz => by
    rw [Int32.toNatClampNeg_ofInt_of_le (by omega) (by omega)]
    omega
  have hnn : ∀ z : Nat, z ≤ 1000 → ¬ Int32.ofInt (z : Int) < 0 := fun z hz q => by
    have := (pm_ltI ⟨by omega, by omega⟩ pm_in0).mp q
    omega
  have s0 : pm_ss (n + 1) = pm_ss n + M := by
    have := pm_ss_1 n (by omega)
    rw [this]
    unfold pm_sz
    rw [hp0]
    dsimp only
    rw [g1]
    rfl
  have s1 : ∀ r, r ≤ M → pm_ss (n + 1 + r) = pm_ss n + M + r * N := by
    intro r
    induction r with
    | zero => intro _; rw [Nat.add_zero, s0, Nat.zero_mul, Nat.add_zero]
    | succ r ih =>
      intro hr
      have q1 := pm_ss_1 (n + 1 + r) (by omega)
      have q2 : pm_sz (n + 1 + r) = N := by
        unfold pm_sz
        rw [hp r (by rw [g1]; show r < M; omega)]
        dsimp only
        rw [g1]
        exact if_neg (by omega)
      rw [show n + 1 + (r + 1) = n + 1 + r + 1 by omega, q1, q2, ih (by omega), Nat.succ_mul]
      omega
  have s1M := s1 M (Nat.le_refl M)
  have s2 := pm_ss_le (show n0 ≤ n from h0) (by omega)
  have s3 := pm_ss_le k3 hf5
  intro T hT X
  obtain ⟨vm₁, cA, comp, -, fA, fC, hO, -, X', step⟩ := X.multianewarray2F hx hown (hts _ m1 rfl) (pm_AO_use hN.2.2) (hts _ m3 rfl) (g := F0 m pc ls (.int (Int32.ofInt (N : Int)) :: .int (Int32.ofInt (M : Int)) :: st.map (pm_c b base))) rfl (by rw [hb]; exact k0) rfl (hnn M k5.1) (hnn N k5.2)
    (by rw [hclp M k5.1]; omega) (by rw [hclp N k5.2]; exact Nat.le_trans (Nat.mul_le_mul k5.2 (show componentBytes .long ≤ 8 by decide)) (by decide)) (by rw [hclp N k5.2]; omega) rfl rfl (by rw [hclp M k5.1]; omega) (by rw [hclp M k5.1, hclp N k5.2]; omega)
  rw [hclp M k5.1, hclp N k5.2] at X' step
  have hcomp : comp = Y.2.1 := Option.some.inj (fC.symm.trans (hK.2 1 _ rfl).2)
  have hcA : cA = Y.2.2.2.2 := Option.some.inj (fA.symm.trans (hK.2 4 _ rfl).2)
  subst hcomp
  subst hcA
  generalize hF : Jvm.Free.Multi.fill (T.setVm vm₁) Y.2.2.2.2 Y.2.1 M N (defaultValue .long) M = F at X' step
  have hTh : (T.setVm vm₁).heap = H := hT
  obtain ⟨f1, f2, -, -⟩ := Jvm.Free.Multi.fill_facts (T.setVm vm₁) Y.2.2.2.2 Y.2.1 M N (defaultValue .long) M
  rw [hF, hTh] at f1 f2
  have hold : ∀ x : Nat, x < H.size → F.heap[x]? = H[x]? := fun x hx => by
    have := Jvm.Free.Multi.fill_old (T.setVm vm₁) Y.2.2.2.2 Y.2.1 M N (defaultValue .long) (a := x) (by rw [hTh]; exact hx) M
    rw [hF, hTh] at this
    exact this
  have hrow : ∀ j : Nat, j < M → F.heap[H.size + 1 + j]? = some (vp_cell Y.2.1 (N, .inr (.inl (fun _ => 0)))) := fun j hj => by
    have := Jvm.Free.Multi.fill_inner (T.setVm vm₁) Y.2.2.2.2 Y.2.1 M N (defaultValue .long) M j hj
    rw [hF, hTh] at this
    rw [this]
    exact congrArg some (arrV_new Y.2.1 N (defaultValue .long))
  have hW1 : pm_wr D Y b base (n + (1 + M)) σ F.heap := pm_wr_more hW (by rw [f1]; omega) hold (fun j j1 j2 => by
    by_cases hj : j = n
    · subst hj
      rw [hp0, pm_ce5o g1]
      show F.heap[_]? = some (vp_cell _ _)
      rw [← hW.1, f2, vp_cell_q]
      exact congrArg some (pm_outer _ M (fun i hi => by
        rw [pm_ad2 g1 (by omega) (by omega) (by omega), k2, hW.1]
        omega))
    · have e := hp (j - n - 1) (by rw [g1]; show _ < M; omega)
      rw [show n + 1 + (j - n - 1) = j by omega] at e
      rw [e, pm_ce5 g1 (by omega), pm_fj0 k4]
      show F.heap[_]? = some (vp_cell _ _)
      rw [← hrow (j - n - 1) (by omega), hW.1]
      congr 1
      omega)
  have h2 := k6 (by omega) k3 hL ls F.heap locs hs hw hl (by rw [Nat.add_assoc]; exact hW1) (pm_S_more hS (by omega) hold)
  rw [show n + 1 + M - n0 = n - n0 + 1 + M by omega, show pm_ss (n + 1 + M) - pm_ss n0 = pm_ss n - pm_ss n0 + M + M * N by omega] at h2
  have ec : pm_c b base (.inr (.inr (c, -1))) = .ref T.heap.size := by
    rw [hT, hW.1, ← k2]
    exact congrArg Value.ref (pm_ad2o g1 (by omega) (by omega))
  rw [List.map_cons, ec] at h2
  obtain ⟨t, a1, b1⟩ := h2 F rfl X'
  exact ⟨t, step t a1, b1⟩
end PW3
