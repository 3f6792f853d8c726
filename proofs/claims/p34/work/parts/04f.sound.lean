/-! ===== a row's copy, ends, and the contract out of the pure machine ===== -/
section PW5
variable {p : Program} {l : Launch} {e : Env} {R : Room} {s : State} {m : MethodId} {args : Array Value} {below : List Frame} {meth : Method} {cd : Code} {Q : State → Prop} {D : va_G} {Y : pm_Y} {b base n0 maxL : Nat} {E : pm_E}

theorem pm_arrV_congr {cA : ClassId} {N : Nat} {f g : Nat → Value} (h : ∀ j, j < N → f j = g j) : arrV cA N f = arrV cA N g := by
  unfold arrV
  congr 2
  funext j
  exact h j.val j.isLt
theorem pw_acp (C : pm_CX p R s m args meth cd D Y b base n0 maxL E) : pm_R_acp E (pm_GC p l e R s m args below meth cd Q D Y b base n0 maxL E) := by
  intro pc L st n σ idx c0 c1 N k0 k1 k2 k3 k4 k5 k6 h0 h1 hL ls H locs hs hw hl hW hS
  obtain ⟨hx, hb, hml, hown, hts, hK, hN, hbs, ⟨hf1, hf2, hf3, hf4, hf5⟩, hini, hsc⟩ := id C
  obtain ⟨g0, g1⟩ := k4
  obtain ⟨p0, p1, hne, hN3⟩ := k5
  have hN2 : N < 2147483648 := by omega
  have ha0 := pm_at1 (Y := Y) (b := b) (base := base) (σ := σ) g0 (by omega) p0
  have ha1 := pm_at1 (Y := Y) (b := b) (base := base) (σ := σ) g1 (by omega) p1
  rw [pm_ce1 g0] at ha0
  rw [pm_ce1 g1] at ha1
  have e0 : pm_c b base (.inr (.inr (c0, 0))) = .ref (base + pm_pos c0) := congrArg Value.ref (pm_ad1 g0 (by omega) 0)
  have e1 : pm_c b base (.inr (.inr (c1, 0))) = .ref (base + pm_pos c1) := congrArg Value.ref (pm_ad1 g1 (by omega) 0)
  simp only [List.map_cons, e0, e1]
  have hcN : (Int32.ofInt (N : Int)).toNatClampNeg = N := by
    rw [Int32.toNatClampNeg_ofInt_of_le (by omega) (by omega)]
    omega
  have hnN : ¬ Int32.ofInt (N : Int) < 0 := fun z => by
    have := (pm_ltI ⟨by omega, by omega⟩ pm_in0).mp z
    omega
  have hc0 := hW.2 _ _ ha0
  have hc1 := hW.2 _ _ ha1
  have hc0 : H[base + pm_pos c0]? = some (vp_cell Y.1 (N, .inl (pm_fi σ c0 0))) := hc0
  have hc1 : H[base + pm_pos c1]? = some (vp_cell Y.1 (N, .inl (pm_fi σ c1 0))) := hc1
  obtain ⟨-, ka, hka, cma, hkka⟩ := (hK.2 0 _ rfl).1 N (fun j => .int (pm_fi σ c0 0 j))
  intro T hT X
  obtain ⟨vm', X', step⟩ := X.arraycopy hx hown (hts _ k1 rfl) (hts _ (by decide +kernel) rfl) (hts _ (by decide +kernel) rfl) (hts _ (by decide +kernel) rfl) (src := base + pm_pos c0) (dst := base + pm_pos c1) (cs := vp_cell Y.1 (N, .inl (pm_fi σ c0 0))) (cd := vp_cell Y.1 (N, .inl (pm_fi σ c1 0))) (srcPos := Int32.ofInt 0) (destPos := Int32.ofInt 0) (n := Int32.ofInt (N : Int)) (by rw [hT]; exact hc0) (by rw [hT]; exact hc1)
    (fun _ h => by cases h) (fun _ h => by cases h) (fun h => by cases h) (fun h => by cases h) hka hka hkka hkka (by simp [refKind]) (by decide) (by decide) hnN
    (by rw [pm_ti (x := (N : Int)) ⟨by omega, by omega⟩]; show ¬ _ > ((arrV Y.1 N (fun j => .int (pm_fi σ c0 0 j))).slots.size : Int); rw [arrV_size]; show ¬ (0 : Int) + N > N; omega)
    (by rw [pm_ti (x := (N : Int)) ⟨by omega, by omega⟩]; show ¬ _ > ((arrV Y.1 N (fun j => .int (pm_fi σ c1 0 j))).slots.size : Int); rw [arrV_size]; show ¬ (0 : Int) + N > N; omega)
    (fun vm₁ _ i hi => by
      have hi : i < N := by rw [hcN] at hi; exact hi
      have e : (vp_cell Y.1 (N, .inl (pm_fi σ c0 0))).slots.getD ((Int32.ofInt 0).toNatClampNeg + i) .null = .int (pm_fi σ c0 0 i) := by
        show (arrV Y.1 N (fun j => .int (pm_fi σ c0 0 j))).slots.getD (0 + i) _ = _
        rw [Array.getD_eq_getD_getElem?, arrV_read _ _ (by omega), Nat.zero_add]
        rfl
      refine ⟨?_, ?_⟩
      · rw [e]
        rfl
      · rw [e]
        exact trivial)
    (g := F0 m pc ls (.int (Int32.ofInt (N : Int)) :: .int (Int32.ofInt 0) :: .ref (base + pm_pos c1) :: .int (Int32.ofInt 0) :: .ref (base + pm_pos c0) :: st.map (pm_c b base))) rfl (by rw [hml]; exact hs) (rest := st.map (pm_c b base)) rfl (by rw [hb]; exact k0) (by omega) (by
      have h8 : nativeFrameWords "java/lang/System" "arraycopy" 5 + 11 ≤ 22 := by decide +kernel
      have h7 := pm_catS (b := b) (base := base) st
      show 2 * 0 + _ + _ ≤ _
      omega)
  have ec : copied (vp_cell Y.1 (N, .inl (pm_fi σ c0 0))) (vp_cell Y.1 (N, .inl (pm_fi σ c1 0))) (Int32.ofInt 0) (Int32.ofInt 0) (Int32.ofInt (N : Int)) = vp_cell Y.1 (N, .inl (va_cpy (pm_fi σ c0 0) (pm_fi σ c1 0) 0 0 N)) := by
    have h9 := va_copied (n0 := N) (n1 := N) (sp := 0) (dp := 0) (n := N) (fun z => Value.int z) Y.1 Y.1 (pm_fi σ c0 0) (pm_fi σ c1 0) (by omega)
    unfold copied
    rw [hcN]
    exact h9
  rw [ec] at X' step
  have hl1 : base + pm_pos c1 < H.size := (Array.getElem?_eq_some_iff.mp hc1).1
  generalize hce : vp_cell Y.1 (N, .inl (va_cpy (pm_fi σ c0 0) (pm_fi σ c1 0) 0 0 N)) = CE at X' step
  have hheap : ((T.setVm vm').setCell (base + pm_pos c1) CE).heap = H.setIfInBounds (base + pm_pos c1) CE := by rw [← hT]; rfl
  have oq : ∀ q : Nat, q ≠ base + pm_pos c1 → (H.setIfInBounds (base + pm_pos c1) CE)[q]? = H[q]? := fun q hq => by simp [Array.getElem?_setIfInBounds, Ne.symm hq]
  have o1 : (H.setIfInBounds (base + pm_pos c1) CE)[base + pm_pos c1]? = some CE := by simp [Array.getElem?_setIfInBounds, hl1]
  have oz : (H.setIfInBounds (base + pm_pos c1) CE).size = H.size := by simp
  let τ : pm_H := fun c r i => if c = c1 ∧ r = 0 ∧ 0 ≤ i ∧ i < (N : Int) then σ c0 0 i else σ c r i
  have t1 : ∀ (c : Nat) (r i : Int), c ≠ c1 → τ c r i = σ c r i := fun c r i h => if_neg (fun q => h q.1)
  have t2 : ∀ i : Int, 0 ≤ i → i < (N : Int) → τ c1 0 i = σ c0 0 i := fun i h h' => if_pos ⟨rfl, rfl, h, h'⟩
  have t3 : ∀ i : Int, i < 0 ∨ (N : Int) ≤ i → τ c1 0 i = σ c1 0 i := fun i h => if_neg (fun q => by omega)
  have t4 : ∀ r i : Int, r ≠ 0 → τ c1 r i = σ c1 r i := fun r i h => if_neg (fun q => h q.2.1)
  have hl67 := pm_kd_lt g1 (by omega)
  have h4 : (pm_kd c1).1 < 4 := by rw [g1]; exact (by decide : (1 : Nat) < 4)
  have hW1 : pm_wr D Y b base n τ (H.setIfInBounds (base + pm_pos c1) CE) := by
    refine pm_wr_put hW oz oq ?_ (fun j hj => pm_ce_c (fun r i => t1 _ r i (fun z => hj (pm_ph1u hl67 h4 z))))
    rw [pm_ph1 c1 hl67 h4, pm_ce1 g1]
    show (H.setIfInBounds (base + pm_pos c1) CE)[_]? = some (vp_cell _ _)
    rw [o1, ← hce, vp_cell_i, vp_cell_i]
    refine congrArg some (pm_arrV_congr (fun j hj => ?_))
    unfold va_cpy
    rw [if_pos ⟨Nat.zero_le _, by omega⟩]
    unfold pm_fi
    rw [t2 _ (by omega) (by omega)]
    congr 3
    omega
  obtain ⟨t, a1, b1⟩ := k6 τ t1 t2 t3 t4 h0 h1 hL ls _ _ hs hw hl hW1 ⟨by rw [oz]; exact hS.1, fun q q1 q2 => by
      rw [oq q (fun e => q2 (by rw [e]; show base ≤ base + _; omega))]
      exact hS.2.1 q q1 q2, fun q hq => by
      rcases List.mem_append.mp hq with h | h
      · exact hS.2.2 q h
      · obtain ⟨z, -, hz⟩ := List.mem_map.mp h
        rw [← hz]
        show base ≤ base + _
        omega⟩ _ hheap X'
  exact ⟨t, step t a1, b1⟩
theorem pw_norm (C : pm_CX p R s m args meth cd D Y b base n0 maxL E) : pm_R_norm E (pm_GC p l e R s m args below meth cd Q D Y b base n0 maxL E) := by
  intro pc L st n σ x k0 h0 h1 hL ls H locs hs hw hl hW hS
  obtain ⟨hx, hb, hml, hown, hts, hK, hN, hbs, ⟨hf1, hf2, hf3, hf4, hf5⟩, hini, hsc⟩ := id C
  have h2 := k0 h0 h1 hL ls H locs hs hw hl hW hS
  simp only [List.map_cons, pm_c, pm_wrap, Int32.ofInt_toInt] at h2
  exact h2
theorem pw_normL (C : pm_CX p R s m args meth cd D Y b base n0 maxL E) : pm_R_normL E (pm_GC p l e R s m args below meth cd Q D Y b base n0 maxL E) := by
  intro pc L st n σ x k0 h0 h1 hL ls H locs hs hw hl hW hS
  obtain ⟨hx, hb, hml, hown, hts, hK, hN, hbs, ⟨hf1, hf2, hf3, hf4, hf5⟩, hini, hsc⟩ := id C
  have h2 := k0 h0 h1 hL ls H locs hs hw hl hW hS
  simp only [List.map_cons, pm_c, pm_wrapL, Int64.ofInt_toInt] at h2
  exact h2
theorem pm_le_len : ∀ {L2 L : pm_L}, pm_le L2 L → L2.length = L.length
  | [], [], _ => rfl
  | a :: l, b :: m, h => by
    show l.length + 1 = m.length + 1
    rw [pm_le_len h.2]
  | [], _ :: _, h => h.elim
  | _ :: _, [], h => h.elim
theorem pm_le_get : ∀ {L2 L : pm_L}, pm_le L2 L → ∀ {i : Nat} {v : pm_V}, L2.getD i none = some v → L.getD i none = some v
  | [], [], _, i, v, hv => by cases hv
  | a :: l, b :: m, h, 0, v, hv => by
    rcases h.1 with q | q
    · subst q
      cases hv
    · subst q
      exact hv
  | a :: l, b :: m, h, i + 1, v, hv => pm_le_get h.2 (i := i) hv
  | [], _ :: _, h, _, _, _ => h.elim
  | _ :: _, [], h, _, _, _ => h.elim
theorem pw_weak (C : pm_CX p R s m args meth cd D Y b base n0 maxL E) : pm_R_weak E (pm_GC p l e R s m args below meth cd Q D Y b base n0 maxL E) := by
  intro pc L st n σ L2 k0 k1 h0 h1 hL ls H locs hs hw hl hW hS
  obtain ⟨hx, hb, hml, hown, hts, hK, hN, hbs, ⟨hf1, hf2, hf3, hf4, hf5⟩, hini, hsc⟩ := id C
  refine k1 h0 h1 (by rw [← hL]; exact pm_le_len k0) ls H locs hs hw (fun i v hv => hl i v (pm_le_get k0 hv)) hW hS
end PW5
section PW6
variable {p : Program} {l : Launch} {e : Env} {R : Room} {s : State} {m : MethodId} {args : Array Value} {below : List Frame} {meth : Method} {cd : Code} {Q : State → Prop} {D : va_G} {Y : pm_Y} {b base n0 maxL : Nat} {E : pm_E}

/-- the four ends, as a frame's own matter -/
def pm_Ends (E : pm_E) (G : pm_G) : Prop := pm_R_iret E G ∧ pm_R_zret E G ∧ pm_R_lret E G ∧ pm_R_vret E G
theorem pm_rules (C : pm_CX p R s m args meth cd D Y b base n0 maxL E) (hE : pm_Ends E (pm_GC p l e R s m args below meth cd Q D Y b base n0 maxL E)) : pm_Rules E (pm_GC p l e R s m args below meth cd Q D Y b base n0 maxL E) :=
  ⟨pw_iconst C, pw_bipush C, pw_sipush C, pw_ldc C, pw_ldcw C, pw_ldc2 C, pw_lconst C, pw_iload_n C, pw_iload C, pw_lload_n C, pw_lload C, pw_aload_n C, pw_aload C, pw_istore_n C, pw_istore C, pw_lstore_n C, pw_lstore C, pw_astore_n C, pw_iinc C, pw_iadd C, pw_isub C, pw_imul C, pw_ineg C, pw_iand C, pw_ior C, pw_ishl C, pw_ishr C, pw_iushr C, pw_idiv C, pw_irem C, pw_i2l C, pw_i2b C, pw_i2s C, pw_ladd C, pw_lsub C, pw_lmul C, pw_ldiv C, pw_land C, pw_lor C, pw_lshl C, pw_lcmp C, pw_lcmpA C, pw_popi C, pw_pop2l C, pw_dupa C, pw_dup2 C, pw_if_eq C, pw_ic_eq C, pw_if_ne C, pw_ic_ne C, pw_if_lt C, pw_ic_lt C, pw_if_ge C, pw_ic_ge C, pw_if_gt C, pw_ic_gt C, pw_if_le C, pw_ic_le C, pw_ifA_eq C, pw_icA_eq C, pw_ifA_ne C, pw_icA_ne C, pw_goto C, pw_tsw C, pw_lsw2 C, pw_getI C, pw_getR C, pw_putI C, pw_putR C, pw_iald C, pw_iald2 C, pw_lald C, pw_lald2 C, pw_zald C, pw_iast C, pw_iast2 C, pw_last C, pw_last2 C, pw_zast C, pw_aald C, pw_alen C, pw_sld C, pw_slen C, pw_new C, pw_newI C, pw_newJ C, pw_newZ C, pw_mnaI C, pw_mnaJ C, pw_iv C, pw_is C, pw_isp C, pw_obj C, pw_max C, pw_acp C, hE.1, hE.2.1, hE.2.2.1, hE.2.2.2, pw_norm C, pw_normL C, pw_weak C⟩
theorem pm_lr_ent {b base : Nat} : ∀ (as : List pm_V) (k i : Nat) (v : pm_V), (pm_fl as).getD i none = some v → (k + i, pm_c b base v) ∈ lv_args k (as.map (pm_c b base))
  | [], k, i, v, h => by cases h
  | .inl x :: as, k, 0, v, h => by
    cases h
    exact List.mem_cons_self
  | .inl x :: as, k, i + 1, v, h => by
    refine List.mem_cons_of_mem _ ?_
    have := pm_lr_ent (b := b) (base := base) as (k + 1) i v h
    rw [show k + (i + 1) = k + 1 + i by omega]
    exact this
  | .inr (.inr x) :: as, k, 0, v, h => by
    cases h
    exact List.mem_cons_self
  | .inr (.inr x) :: as, k, i + 1, v, h => by
    refine List.mem_cons_of_mem _ ?_
    have := pm_lr_ent (b := b) (base := base) as (k + 1) i v h
    rw [show k + (i + 1) = k + 1 + i by omega]
    exact this
  | .inr (.inl x) :: as, k, 0, v, h => by
    cases h
    exact List.mem_cons_self
  | .inr (.inl x) :: as, k, 1, v, h => by cases h
  | .inr (.inl x) :: as, k, i + 2, v, h => by
    refine List.mem_cons_of_mem _ ?_
    have := pm_lr_ent (b := b) (base := base) as (k + 2) i v h
    rw [show k + (i + 2) = k + 2 + i by omega]
    exact this
theorem pm_fl_len {b base : Nat} : ∀ (as : List pm_V), (lg_sl (as.map (pm_c b base))).length = (pm_fl as).length
  | [] => rfl
  | .inl x :: as => congrArg (· + 1) (pm_fl_len as)
  | .inr (.inr x) :: as => congrArg (· + 1) (pm_fl_len as)
  | .inr (.inl x) :: as => congrArg (· + 2) (pm_fl_len as)
theorem pm_ent_get {as : List pm_V} {n i : Nat} {v : pm_V} (h : (pm_ent as n).getD i none = some v) : (pm_fl as).getD i none = some v := by
  unfold pm_ent at h
  rw [List.getD_eq_getElem?_getD] at h ⊢
  by_cases q : i < (pm_fl as).length
  · rw [List.getElem?_append_left q] at h
    exact h
  · rw [List.getElem?_append_right (by omega), List.getElem?_replicate] at h
    split at h <;> cases h
theorem pm_ent_len {as : List pm_V} {n : Nat} (h : (pm_fl as).length ≤ n) : (pm_ent as n).length = n := by
  unfold pm_ent
  rw [List.length_append, List.length_replicate]
  omega
/-- what is to be shown of a method in the pure machine -/
def pm_Pure (own : String) (cc : ByteArray) (maxL : Nat) (ret : Option FieldType) (fr al : Nat) (ini : Bool) (pre : List pm_V → Nat → pm_H → Prop) (po : List pm_V → Nat → pm_H → pm_P) : Prop :=
  ∀ (as : List pm_V) (n : Nat) (σ : pm_H), pre as n σ → n + al ≤ 122 ∧ (pm_fl as).length ≤ maxL ∧ ∀ G : pm_G, pm_Rules (own, fr, n + al, cc, -1, (fun _ => 0), ini, ret, po as n σ) G → G 0 (pm_ent as maxL) [] n σ
theorem pm_sound {y : MethodName} {cc : ByteArray} {maxL : Nat} {ret : Option FieldType} {fr al : Nat} {ini : Bool} {pre : List pm_V → Nat → pm_H → Prop} {po : List pm_V → Nat → pm_H → pm_P}
    (hpl : plainFor y = true) (hc : Cond.code y cc maxL ret ∈ lw_tbl) (hini : ini = true → y.name = "<init>") (H : pm_Pure y.cls cc maxL ret fr al ini pre po) : pm_Ct y cc maxL ret fr al pre po := by
  refine ⟨hc, fun l D Y b base n as σ hpre => ?_⟩
  obtain ⟨hn, hlen, hG⟩ := H as n σ hpre
  refine va_MetF (cc := cc) (maxL := maxL) (ret := ret) hpl rfl ?_
  intro p e s m args below meth c s₁ B hml hv
  obtain ⟨rfl, hW, hK, hN⟩ := hv
  have hx := B.exec
  have hb := B.bytes
  have hr := B.returns
  have hts0 := atoms_spec (ws := pm_W y cc maxL ret) B.pre
  have hown : s.vm.findClass y.cls = some m.cls := findClass_of_methodNamed B.named
  have hts : ∀ w ∈ lw_tbl, goodWord w = true → w.before (as.map (pm_c b base)).toArray s = true := fun w hw hg => hts0 w (List.mem_cons_of_mem _ (List.mem_filter.mpr ⟨hw, hg⟩))
  have hname : meth.name = y.name := (name_of_methodNamed B.named B.method).1
  have hlocks := B.notSynchronized
  rw [lg_entry_eq]
  have hle : (lg_sl (as.map (pm_c b base))).length ≤ maxL := by rw [pm_fl_len]; exact hlen
  have hent := lv_entry (as.map (pm_c b base)) hle
  generalize (lg_sl (as.map (pm_c b base)) ++ List.replicate (maxL - (lg_sl (as.map (pm_c b base))).length) Slot.unset).toArray = ls at hent ⊢
  have C : pm_CX p (headSpec (pm_W y cc maxL ret) (pm_rm fr al n)).room s m (as.map (pm_c b base)).toArray meth c D Y b base n maxL (y.cls, fr, n + al, cc, -1, (fun _ => 0), ini, ret, po as n σ) :=
    ⟨hx, hb, hml, hown, hts, hK, hN, by rw [hW.1]; omega, ⟨Nat.le_refl _, Nat.le_refl _, by show n + al - n ≤ al; omega, Nat.le_refl _, hn⟩, fun q => hname.trans (hini q), Or.inl rfl⟩
  have hS0 : va_S (fun q => base ≤ q) s.heap s.heap [] := va_S.rf
  have key := hG (pm_GC p l e (headSpec (pm_W y cc maxL ret) (pm_rm fr al n)).room s m (as.map (pm_c b base)).toArray below meth c (MQ below (pm_Q D Y b base (n + al) (po as n σ)) (as.map (pm_c b base)).toArray s al (pm_ss (n + al) - pm_ss n) (fun q => base ≤ q)) D Y b base n maxL (y.cls, fr, n + al, cc, -1, (fun _ => 0), ini, ret, po as n σ)) (pm_rules C ⟨?_, ?_, ?_, ?_⟩)
  · have k2 := key (Nat.le_refl _) (Nat.le_add_right _ _) (pm_ent_len hlen) ls s.heap [] hent.1 hent.2.1 (fun i v hv => ?_) hW hS0
    · rw [Nat.sub_self, Nat.sub_self] at k2
      exact k2
    · have h9 := pm_lr_ent (b := b) (base := base) as 0 i v (pm_ent_get hv)
      rw [Nat.zero_add] at h9
      exact hent.2.2 _ h9
  · intro pc L st n9 τ x k0 k1 k2 k3 h0 h1 hL ls H locs hs hw hl hW2 hS
    have k2 : n9 = n + al := k2
    subst k2
    rw [show n + al - n = al by omega]
    exact W.iret hx hb (hr.trans k1) (fun t ht hWm => ⟨⟨some (.inl x), τ, rfl, k3, by rw [ht]; exact hW2⟩, hS.F ht⟩) hS.2.2 k0 hlocks
  · intro pc L st n9 τ x k0 k1 kx k2 k3 h0 h1 hL ls H locs hs hw hl hW2 hS
    have k2 : n9 = n + al := k2
    subst k2
    rw [show n + al - n = al by omega]
    exact W.zret (ty := .boolean) hx hb (hr.trans k1) (by rcases kx with rfl | rfl <;> rfl) (fun t ht hWm => ⟨⟨some (.inl x), τ, rfl, k3, by rw [ht]; exact hW2⟩, hS.F ht⟩) hS.2.2 k0 hlocks
  · intro pc L st n9 τ x k0 k1 k2 k3 h0 h1 hL ls H locs hs hw hl hW2 hS
    have k2 : n9 = n + al := k2
    subst k2
    rw [show n + al - n = al by omega]
    exact W.lret hx hb (hr.trans k1) (fun t ht hWm => ⟨⟨some (.inr (.inl x)), τ, rfl, k3, by rw [ht]; exact hW2⟩, hS.F ht⟩) hS.2.2 k0 hlocks
  · intro pc L st n9 τ k0 k1 k2 k3 h0 h1 hL ls H locs hs hw hl hW2 hS
    have k2 : n9 = n + al := k2
    subst k2
    rw [show n + al - n = al by omega]
    exact W.vret hx hb (hr.trans k1) (fun t ht hWm => ⟨⟨none, τ, rfl, k3, by rw [ht]; exact hW2⟩, hS.F ht⟩) hS.2.2 k0 hlocks
end PW6
