/-! ===== each rule of code over the machine ===== -/
theorem pm_cls_ok0 : ∀ ci, ci < 12 → ∀ w ∈ u_ws (vwCl.getD ci (RX0, TX0, 0)).1 (vwCl.getD ci (RX0, TX0, 0)).2.1 (vwCl.getD ci (RX0, TX0, 0)).2.2, w ∈ lw_tbl ∧ goodWord w = true := by decide +kernel
section PW
variable {p : Program} {l : Launch} {e : Env} {R : Room} {s : State} {m : MethodId} {args : Array Value} {below : List Frame} {meth : Method} {c : Code} {Q : State → Prop} {D : va_G} {Y : pm_Y} {b base n0 maxL : Nat} {E : pm_E}
def pm_lr (b base : Nat) (L : pm_L) (ls : Array Slot) : Prop := ∀ (i : Nat) (v : pm_V), L.getD i none = some v → ls[i]? = some (.val (pm_c b base v))
/-- what holds throughout a method's run -/
def pm_CX (p : Program) (R : Room) (s : State) (m : MethodId) (args : Array Value) (meth : Method) (c : Code) (D : va_G) (Y : pm_Y) (b base n0 maxL : Nat) (E : pm_E) : Prop :=
  p.tables.exec = Jvm.exec ∧ c.code = E.2.2.2.1 ∧ c.maxLocals = maxL ∧ s.vm.findClass E.1 = some m.cls ∧ (∀ w ∈ lw_tbl, goodWord w = true → w.before args s = true) ∧ va_K D vwCl (pm_tys Y) s ∧ pm_nest s ∧ base ≤ s.heap.size ∧ (E.2.1 ≤ R.frames ∧ 31 * E.2.1 ≤ R.locals ∧ E.2.2.1 - n0 ≤ R.cells ∧ pm_ss E.2.2.1 - pm_ss n0 ≤ R.slots ∧ E.2.2.1 ≤ 122) ∧ (E.2.2.2.2.2.2.1 = true → meth.name = "<init>") ∧
  (E.2.2.2.2.1 = -1 ∨ (0 ≤ E.2.2.2.2.1 ∧ E.2.2.2.2.1 ≤ 2147483647 ∧ va_X b E.2.2.2.2.1.toNat (fun j => Int32.ofInt (E.2.2.2.2.2.1 (j : Int))) s s.heap ∧ ¬ base ≤ b ∧ b < s.heap.size))
def pm_GC (p : Program) (l : Launch) (e : Env) (R : Room) (s : State) (m : MethodId) (args : Array Value) (below : List Frame) (meth : Method) (c : Code) (Q : State → Prop) (D : va_G) (Y : pm_Y) (b base n0 maxL : Nat) (E : pm_E) : pm_G := fun pc L st n σ =>
  n0 ≤ n → n ≤ E.2.2.1 → L.length = maxL → ∀ (ls : Array Slot) (H : Heap) (locs : List Loc), ls.size = maxL → lv_wf ls → pm_lr b base L ls → pm_wr D Y b base n σ H → va_S (fun q => base ≤ q) s.heap H locs → W p l e R s m args below meth c H locs (n - n0) (pm_ss n - pm_ss n0) Q (F0 m pc ls (st.map (pm_c b base)))
theorem pw_iconst (C : pm_CX p R s m args meth c D Y b base n0 maxL E) : pm_R_iconst E (pm_GC p l e R s m args below meth c Q D Y b base n0 maxL E) := by
  intro pc L st n σ v k0 k1 h0 h1 hL ls H locs hs hw hl hW hS
  obtain ⟨hx, hb, hml, hown, hts, hK, hN, hbs, ⟨hf1, hf2, hf3, hf4, hf5⟩, hini, hsc⟩ := id C
  exact lv_iconst hx hb k0 rfl (k1 h0 h1 hL ls H locs hs hw hl hW hS)
theorem pw_bipush (C : pm_CX p R s m args meth c D Y b base n0 maxL E) : pm_R_bipush E (pm_GC p l e R s m args below meth c Q D Y b base n0 maxL E) := by
  intro pc L st n σ v k0 k1 k2 h0 h1 hL ls H locs hs hw hl hW hS
  obtain ⟨hx, hb, hml, hown, hts, hK, hN, hbs, ⟨hf1, hf2, hf3, hf4, hf5⟩, hini, hsc⟩ := id C
  refine lv_bipush (v := Int32.ofInt v) hx hb k0 ?_ (k2 h0 h1 hL ls H locs hs hw hl hW hS)
  apply Int32.toInt_inj.mp
  rw [pm_ti ⟨by omega, by omega⟩]
  rw [Int8.toInt_toInt32]
  exact Int8.toInt_ofInt_of_le (by omega) (by omega)
theorem pw_sipush (C : pm_CX p R s m args meth c D Y b base n0 maxL E) : pm_R_sipush E (pm_GC p l e R s m args below meth c Q D Y b base n0 maxL E) := by
  intro pc L st n σ v k0 k1 k2 h0 h1 hL ls H locs hs hw hl hW hS
  obtain ⟨hx, hb, hml, hown, hts, hK, hN, hbs, ⟨hf1, hf2, hf3, hf4, hf5⟩, hini, hsc⟩ := id C
  refine lv_sipush (v := Int32.ofInt v) hx hb k0 ?_ (k2 h0 h1 hL ls H locs hs hw hl hW hS)
  apply Int32.toInt_inj.mp
  rw [pm_ti ⟨by omega, by omega⟩]
  rw [Int16.toInt_toInt32]
  exact Int16.toInt_ofInt_of_le (by omega) (by omega)
theorem pw_ldc (C : pm_CX p R s m args meth c D Y b base n0 maxL E) : pm_R_ldc E (pm_GC p l e R s m args below meth c Q D Y b base n0 maxL E) := by
  intro pc L st n σ idx v k0 k1 k2 h0 h1 hL ls H locs hs hw hl hW hS
  obtain ⟨hx, hb, hml, hown, hts, hK, hN, hbs, ⟨hf1, hf2, hf3, hf4, hf5⟩, hini, hsc⟩ := id C
  have h2 := k2 h0 h1 hL ls H locs hs hw hl hW hS
  simp only [List.map_cons, pm_c, Int32.ofInt_toInt] at h2
  exact lv_ldc hx hb hown (hts _ k1 rfl) k0 h2
theorem pw_ldcw (C : pm_CX p R s m args meth c D Y b base n0 maxL E) : pm_R_ldcw E (pm_GC p l e R s m args below meth c Q D Y b base n0 maxL E) := by
  intro pc L st n σ idx v k0 k1 k2 h0 h1 hL ls H locs hs hw hl hW hS
  obtain ⟨hx, hb, hml, hown, hts, hK, hN, hbs, ⟨hf1, hf2, hf3, hf4, hf5⟩, hini, hsc⟩ := id C
  have h2 := k2 h0 h1 hL ls H locs hs hw hl hW hS
  simp only [List.map_cons, pm_c, Int32.ofInt_toInt] at h2
  exact lv_ldcw hx hb hown (hts _ k1 rfl) k0 h2
theorem pw_ldc2 (C : pm_CX p R s m args meth c D Y b base n0 maxL E) : pm_R_ldc2 E (pm_GC p l e R s m args below meth c Q D Y b base n0 maxL E) := by
  intro pc L st n σ idx v k0 k1 k2 h0 h1 hL ls H locs hs hw hl hW hS
  obtain ⟨hx, hb, hml, hown, hts, hK, hN, hbs, ⟨hf1, hf2, hf3, hf4, hf5⟩, hini, hsc⟩ := id C
  have h2 := k2 h0 h1 hL ls H locs hs hw hl hW hS
  simp only [List.map_cons, pm_c, Int64.ofInt_toInt] at h2
  exact lv_ldc2 hx hb hown (hts _ k1 rfl) k0 h2
theorem pw_lconst (C : pm_CX p R s m args meth c D Y b base n0 maxL E) : pm_R_lconst E (pm_GC p l e R s m args below meth c Q D Y b base n0 maxL E) := by
  intro pc L st n σ k k0 k1 h0 h1 hL ls H locs hs hw hl hW hS
  obtain ⟨hx, hb, hml, hown, hts, hK, hN, hbs, ⟨hf1, hf2, hf3, hf4, hf5⟩, hini, hsc⟩ := id C
  exact lv_lconst (v := Int64.ofInt ((k : Nat) : Int)) hx hb k0 (by match k with | 0 => rfl | 1 => rfl) (k1 h0 h1 hL ls H locs hs hw hl hW hS)
theorem pw_iload_n (C : pm_CX p R s m args meth c D Y b base n0 maxL E) : pm_R_iload_n E (pm_GC p l e R s m args below meth c Q D Y b base n0 maxL E) := by
  intro pc L st n σ k x k0 k1 k2 h0 h1 hL ls H locs hs hw hl hW hS
  obtain ⟨hx, hb, hml, hown, hts, hK, hN, hbs, ⟨hf1, hf2, hf3, hf4, hf5⟩, hini, hsc⟩ := id C
  exact lv_iload_n hx hb k0 rfl (hl _ _ k1) (k2 h0 h1 hL ls H locs hs hw hl hW hS)
theorem pw_iload (C : pm_CX p R s m args meth c D Y b base n0 maxL E) : pm_R_iload E (pm_GC p l e R s m args below meth c Q D Y b base n0 maxL E) := by
  intro pc L st n σ k x k0 k1 k2 h0 h1 hL ls H locs hs hw hl hW hS
  obtain ⟨hx, hb, hml, hown, hts, hK, hN, hbs, ⟨hf1, hf2, hf3, hf4, hf5⟩, hini, hsc⟩ := id C
  exact lv_iload hx hb k0 (hl _ _ k1) (k2 h0 h1 hL ls H locs hs hw hl hW hS)
theorem pw_lload_n (C : pm_CX p R s m args meth c D Y b base n0 maxL E) : pm_R_lload_n E (pm_GC p l e R s m args below meth c Q D Y b base n0 maxL E) := by
  intro pc L st n σ k x k0 k1 k2 h0 h1 hL ls H locs hs hw hl hW hS
  obtain ⟨hx, hb, hml, hown, hts, hK, hN, hbs, ⟨hf1, hf2, hf3, hf4, hf5⟩, hini, hsc⟩ := id C
  exact lv_lload_n hx hb k0 rfl (hl _ _ k1) (k2 h0 h1 hL ls H locs hs hw hl hW hS)
theorem pw_lload (C : pm_CX p R s m args meth c D Y b base n0 maxL E) : pm_R_lload E (pm_GC p l e R s m args below meth c Q D Y b base n0 maxL E) := by
  intro pc L st n σ k x k0 k1 k2 h0 h1 hL ls H locs hs hw hl hW hS
  obtain ⟨hx, hb, hml, hown, hts, hK, hN, hbs, ⟨hf1, hf2, hf3, hf4, hf5⟩, hini, hsc⟩ := id C
  exact lv_lload hx hb k0 (hl _ _ k1) (k2 h0 h1 hL ls H locs hs hw hl hW hS)
theorem pw_aload_n (C : pm_CX p R s m args meth c D Y b base n0 maxL E) : pm_R_aload_n E (pm_GC p l e R s m args below meth c Q D Y b base n0 maxL E) := by
  intro pc L st n σ k x k0 k1 k2 h0 h1 hL ls H locs hs hw hl hW hS
  obtain ⟨hx, hb, hml, hown, hts, hK, hN, hbs, ⟨hf1, hf2, hf3, hf4, hf5⟩, hini, hsc⟩ := id C
  exact lv_aload_n hx hb k0 rfl (hl _ _ k1) (k2 h0 h1 hL ls H locs hs hw hl hW hS)
theorem pw_aload (C : pm_CX p R s m args meth c D Y b base n0 maxL E) : pm_R_aload E (pm_GC p l e R s m args below meth c Q D Y b base n0 maxL E) := by
  intro pc L st n σ k x k0 k1 k2 h0 h1 hL ls H locs hs hw hl hW hS
  obtain ⟨hx, hb, hml, hown, hts, hK, hN, hbs, ⟨hf1, hf2, hf3, hf4, hf5⟩, hini, hsc⟩ := id C
  exact lv_aload hx hb k0 (hl _ _ k1) (k2 h0 h1 hL ls H locs hs hw hl hW hS)
theorem pm_kill_get {L : pm_L} {i j : Nat} {v : pm_V} (h : (pm_kill L i).getD j none = some v) : L.getD j none = some v ∧ ¬ (j + 1 = i ∧ ∃ x, v = .inr (.inl x)) := by
  rcases i with _ | k
  · exact ⟨h, fun q => absurd q.1 (by omega)⟩
  · unfold pm_kill at h
    have key : ∀ (L2 : pm_L), (L2.set k none).getD j none = some v → L2.getD j none = some v ∧ ¬ (j = k) := by
      intro L2 h2
      rw [List.getD_eq_getElem?_getD, List.getElem?_set] at h2
      by_cases e : k = j
      · rw [if_pos e] at h2
        split at h2 <;> cases h2
      · rw [if_neg e, ← List.getD_eq_getElem?_getD] at h2
        exact ⟨h2, fun q => e q.symm⟩
    cases hk : L.getD k none with
    | none =>
      simp only [hk] at h
      refine ⟨h, fun q => ?_⟩
      have : j = k := by omega
      subst this
      rw [hk] at h
      cases h
    | some u =>
      rcases u with x | x | x
      · simp only [hk] at h
        refine ⟨h, fun q => ?_⟩
        have : j = k := by omega
        subst this
        rw [hk] at h
        obtain ⟨-, x2, rfl⟩ := q
        cases h
      · simp only [hk] at h
        obtain ⟨h1, h2⟩ := key L h
        exact ⟨h1, fun q => h2 (by omega)⟩
      · simp only [hk] at h
        refine ⟨h, fun q => ?_⟩
        have : j = k := by omega
        subst this
        rw [hk] at h
        obtain ⟨-, x2, rfl⟩ := q
        cases h
theorem pm_kill_len {L : pm_L} {i : Nat} : (pm_kill L i).length = L.length := by
  rcases i with _ | k
  · rfl
  · unfold pm_kill
    show (match L.getD k none with
      | some (.inr (.inl _)) => L.set k none
      | _ => L).length = L.length
    split
    · rw [List.length_set]
    · rfl
theorem pm_set_get {L : pm_L} {i j : Nat} {u : Option pm_V} {v : pm_V} (h : (L.set i u).getD j none = some v) : (i = j ∧ u = some v) ∨ (i ≠ j ∧ L.getD j none = some v) := by
  rw [List.getD_eq_getElem?_getD, List.getElem?_set] at h
  by_cases e : i = j
  · rw [if_pos e] at h
    split at h
    · exact Or.inl ⟨e, h⟩
    · cases h
  · rw [if_neg e, ← List.getD_eq_getElem?_getD] at h
    exact Or.inr ⟨e, h⟩
/-- the listed locals of a pure list -/
def pm_la (b base : Nat) (L : pm_L) : List (Nat × Value) := (List.range L.length).filterMap (fun i => (L.getD i none).map (fun v => (i, pm_c b base v)))
theorem pm_la_mem {b base : Nat} {L : pm_L} {q : Nat × Value} (h : q ∈ pm_la b base L) : ∃ v, L.getD q.1 none = some v ∧ q.2 = pm_c b base v := by
  obtain ⟨i, -, hi⟩ := List.mem_filterMap.mp h
  cases hv : L.getD i none with
  | none => rw [hv] at hi; cases hi
  | some v => rw [hv] at hi; cases hi; exact ⟨v, hv, rfl⟩
theorem pm_la_in {b base : Nat} {L : pm_L} {i : Nat} {v : pm_V} (h : L.getD i none = some v) : (i, pm_c b base v) ∈ pm_la b base L := by
  have hi : i < L.length := by
    rcases Nat.lt_or_ge i L.length with q | q
    · exact q
    · rw [List.getD_eq_getElem?_getD, List.getElem?_eq_none q] at h
      cases h
  exact List.mem_filterMap.mpr ⟨i, List.mem_range.mpr hi, by rw [h]; rfl⟩
theorem pm_la_has {b base nL : Nat} {L : pm_L} {ls : Array Slot} (h1 : ls.size = nL) (h2 : lv_wf ls) (h3 : pm_lr b base L ls) : lv_has ls nL (pm_la b base L) := by
  refine ⟨h1, h2, fun q hq => ?_⟩
  obtain ⟨v, hv, e⟩ := pm_la_mem hq
  rw [e]
  exact h3 _ _ hv
theorem pm_cat2 {b base : Nat} {v : pm_V} (h : (pm_c b base v).category = 2) : ∃ x, v = .inr (.inl x) := by
  rcases v with x | x | x
  · exact absurd h (by show ¬ (1 : Nat) = 2; decide)
  · exact ⟨x, rfl⟩
  · exact absurd h (by show ¬ (1 : Nat) = 2; decide)
theorem pm_lr1 {b base nL i : Nat} {L : pm_L} {v : pm_V} {ls : Array Slot} {lv' : List (Nat × Value)} (hv : (i, pm_c b base v) :: (pm_la b base L).filter (fun q => !(q.1 == i) && !(q.1 + 1 == i && q.2.category == 2)) = lv') (h : lv_has ls nL lv') : pm_lr b base (pm_s1 L i v) ls := by
  intro j u hj
  subst hv
  unfold pm_s1 at hj
  rcases pm_set_get hj with ⟨rfl, e⟩ | ⟨e, hj⟩
  · cases e
    exact h.2.2 _ List.mem_cons_self
  · obtain ⟨h1, h2⟩ := pm_kill_get hj
    refine h.2.2 (j, pm_c b base u) (List.mem_cons_of_mem _ (List.mem_filter.mpr ⟨pm_la_in h1, ?_⟩))
    have e1 : (j == i) = false := by simpa using fun q => e q.symm
    have e2 : (j + 1 == i && (pm_c b base u).category == 2) = false := by
      rw [Bool.and_eq_false_iff]
      by_cases q : j + 1 = i
      · refine Or.inr ?_
        simp only [beq_eq_false_iff_ne, ne_eq]
        exact fun z => h2 ⟨q, pm_cat2 z⟩
      · refine Or.inl ?_
        simpa using q
    simp only [e1, e2, Bool.not_false, Bool.and_self]
theorem pm_lr2 {b base nL i : Nat} {L : pm_L} {v : pm_V} {ls : Array Slot} {lv' : List (Nat × Value)} (hv : (i, pm_c b base v) :: (pm_la b base L).filter (fun q => !(q.1 == i) && (!(q.1 == i + 1) && !(q.1 + 1 == i && q.2.category == 2))) = lv') (h : lv_has ls nL lv') : pm_lr b base (pm_s2 L i v) ls := by
  intro j u hj
  subst hv
  unfold pm_s2 at hj
  rcases pm_set_get hj with ⟨rfl, e⟩ | ⟨e0, hj⟩
  · cases e
  rcases pm_set_get hj with ⟨rfl, e⟩ | ⟨e, hj⟩
  · cases e
    exact h.2.2 _ List.mem_cons_self
  · obtain ⟨h1, h2⟩ := pm_kill_get hj
    refine h.2.2 (j, pm_c b base u) (List.mem_cons_of_mem _ (List.mem_filter.mpr ⟨pm_la_in h1, ?_⟩))
    have e1 : (j == i) = false := by simpa using fun q => e q.symm
    have e3 : (j == i + 1) = false := by simpa using fun q => e0 q.symm
    have e2 : (j + 1 == i && (pm_c b base u).category == 2) = false := by
      rw [Bool.and_eq_false_iff]
      by_cases q : j + 1 = i
      · refine Or.inr ?_
        simp only [beq_eq_false_iff_ne, ne_eq]
        exact fun z => h2 ⟨q, pm_cat2 z⟩
      · refine Or.inl ?_
        simpa using q
    simp only [e1, e2, e3, Bool.not_false, Bool.and_self]
theorem pm_s1_len {L : pm_L} {i : Nat} {v : pm_V} : (pm_s1 L i v).length = L.length := by
  unfold pm_s1
  rw [List.length_set, pm_kill_len]
theorem pm_s2_len {L : pm_L} {i : Nat} {v : pm_V} : (pm_s2 L i v).length = L.length := by
  unfold pm_s2
  rw [List.length_set, List.length_set, pm_kill_len]
theorem pw_istore_n (C : pm_CX p R s m args meth c D Y b base n0 maxL E) : pm_R_istore_n E (pm_GC p l e R s m args below meth c Q D Y b base n0 maxL E) := by
  intro pc L st n σ k x L2 k0 k1 k2 k3 h0 h1 hL ls H locs hs hw hl hW hS
  obtain ⟨hx, hb, hml, hown, hts, hK, hN, hbs, ⟨hf1, hf2, hf3, hf4, hf5⟩, hini, hsc⟩ := id C
  subst k2
  refine lv_istore_n hx hb k0 rfl (pm_la_has hs hw hl) (by omega) rfl (fun ls2 hl2 => ?_)
  exact k3 h0 h1 (by rw [pm_s1_len]; exact hL) ls2 H locs hl2.1 hl2.2.1 (pm_lr1 rfl hl2) hW hS
theorem pw_istore (C : pm_CX p R s m args meth c D Y b base n0 maxL E) : pm_R_istore E (pm_GC p l e R s m args below meth c Q D Y b base n0 maxL E) := by
  intro pc L st n σ k x L2 k0 k1 k2 k3 h0 h1 hL ls H locs hs hw hl hW hS
  obtain ⟨hx, hb, hml, hown, hts, hK, hN, hbs, ⟨hf1, hf2, hf3, hf4, hf5⟩, hini, hsc⟩ := id C
  subst k2
  refine lv_istore hx hb k0 (pm_la_has hs hw hl) (by omega) rfl (fun ls2 hl2 => ?_)
  exact k3 h0 h1 (by rw [pm_s1_len]; exact hL) ls2 H locs hl2.1 hl2.2.1 (pm_lr1 rfl hl2) hW hS
theorem pw_lstore_n (C : pm_CX p R s m args meth c D Y b base n0 maxL E) : pm_R_lstore_n E (pm_GC p l e R s m args below meth c Q D Y b base n0 maxL E) := by
  intro pc L st n σ k x L2 k0 k1 k2 k3 h0 h1 hL ls H locs hs hw hl hW hS
  obtain ⟨hx, hb, hml, hown, hts, hK, hN, hbs, ⟨hf1, hf2, hf3, hf4, hf5⟩, hini, hsc⟩ := id C
  subst k2
  refine lv_lstore_n hx hb k0 rfl (pm_la_has hs hw hl) (by omega) rfl (fun ls2 hl2 => ?_)
  exact k3 h0 h1 (by rw [pm_s2_len]; exact hL) ls2 H locs hl2.1 hl2.2.1 (pm_lr2 rfl hl2) hW hS
theorem pw_lstore (C : pm_CX p R s m args meth c D Y b base n0 maxL E) : pm_R_lstore E (pm_GC p l e R s m args below meth c Q D Y b base n0 maxL E) := by
  intro pc L st n σ k x L2 k0 k1 k2 k3 h0 h1 hL ls H locs hs hw hl hW hS
  obtain ⟨hx, hb, hml, hown, hts, hK, hN, hbs, ⟨hf1, hf2, hf3, hf4, hf5⟩, hini, hsc⟩ := id C
  subst k2
  refine lv_lstore hx hb k0 (pm_la_has hs hw hl) (by omega) rfl (fun ls2 hl2 => ?_)
  exact k3 h0 h1 (by rw [pm_s2_len]; exact hL) ls2 H locs hl2.1 hl2.2.1 (pm_lr2 rfl hl2) hW hS
theorem pw_astore_n (C : pm_CX p R s m args meth c D Y b base n0 maxL E) : pm_R_astore_n E (pm_GC p l e R s m args below meth c Q D Y b base n0 maxL E) := by
  intro pc L st n σ k x L2 k0 k1 k2 k3 h0 h1 hL ls H locs hs hw hl hW hS
  obtain ⟨hx, hb, hml, hown, hts, hK, hN, hbs, ⟨hf1, hf2, hf3, hf4, hf5⟩, hini, hsc⟩ := id C
  subst k2
  refine lv_astore_n hx hb k0 rfl (pm_la_has hs hw hl) (by omega) rfl (fun ls2 hl2 => ?_)
  exact k3 h0 h1 (by rw [pm_s1_len]; exact hL) ls2 H locs hl2.1 hl2.2.1 (pm_lr1 rfl hl2) hW hS
theorem pw_iinc (C : pm_CX p R s m args meth c D Y b base n0 maxL E) : pm_R_iinc E (pm_GC p l e R s m args below meth c Q D Y b base n0 maxL E) := by
  intro pc L st n σ k d x L2 k0 k1 k2 k3 k4 h0 h1 hL ls H locs hs hw hl hW hS
  obtain ⟨hx, hb, hml, hown, hts, hK, hN, hbs, ⟨hf1, hf2, hf3, hf4, hf5⟩, hini, hsc⟩ := id C
  subst k3
  obtain ⟨q, hq⟩ := List.mem_iff_getElem?.mp (pm_la_in (b := b) (base := base) k2)
  refine lv_iinc (v := Int32.ofInt (x + d)) hx hb k0 (pm_la_has hs hw hl) hq (by rw [Int32.ofInt_add]) (by omega) rfl (fun ls2 hl2 => ?_)
  exact k4 h0 h1 (by rw [pm_s1_len]; exact hL) ls2 H locs hl2.1 hl2.2.1 (pm_lr1 (v := .inl (x + d)) rfl hl2) hW hS
theorem pw_iadd (C : pm_CX p R s m args meth c D Y b base n0 maxL E) : pm_R_iadd E (pm_GC p l e R s m args below meth c Q D Y b base n0 maxL E) := by
  intro pc L st n σ x y k0 k1 h0 h1 hL ls H locs hs hw hl hW hS
  obtain ⟨hx, hb, hml, hown, hts, hK, hN, hbs, ⟨hf1, hf2, hf3, hf4, hf5⟩, hini, hsc⟩ := id C
  have h2 := k1 h0 h1 hL ls H locs hs hw hl hW hS
  simp only [List.map_cons, pm_c, Int32.ofInt_add] at h2
  exact lv_iadd hx hb k0 h2
theorem pw_isub (C : pm_CX p R s m args meth c D Y b base n0 maxL E) : pm_R_isub E (pm_GC p l e R s m args below meth c Q D Y b base n0 maxL E) := by
  intro pc L st n σ x y k0 k1 h0 h1 hL ls H locs hs hw hl hW hS
  obtain ⟨hx, hb, hml, hown, hts, hK, hN, hbs, ⟨hf1, hf2, hf3, hf4, hf5⟩, hini, hsc⟩ := id C
  have h2 := k1 h0 h1 hL ls H locs hs hw hl hW hS
  simp only [List.map_cons, pm_c, Int32.ofInt_sub] at h2
  exact lv_isub hx hb k0 h2
theorem pw_imul (C : pm_CX p R s m args meth c D Y b base n0 maxL E) : pm_R_imul E (pm_GC p l e R s m args below meth c Q D Y b base n0 maxL E) := by
  intro pc L st n σ x y k0 k1 h0 h1 hL ls H locs hs hw hl hW hS
  obtain ⟨hx, hb, hml, hown, hts, hK, hN, hbs, ⟨hf1, hf2, hf3, hf4, hf5⟩, hini, hsc⟩ := id C
  have h2 := k1 h0 h1 hL ls H locs hs hw hl hW hS
  simp only [List.map_cons, pm_c, Int32.ofInt_mul] at h2
  exact lv_imul hx hb k0 h2
theorem pw_ladd (C : pm_CX p R s m args meth c D Y b base n0 maxL E) : pm_R_ladd E (pm_GC p l e R s m args below meth c Q D Y b base n0 maxL E) := by
  intro pc L st n σ x y k0 k1 h0 h1 hL ls H locs hs hw hl hW hS
  obtain ⟨hx, hb, hml, hown, hts, hK, hN, hbs, ⟨hf1, hf2, hf3, hf4, hf5⟩, hini, hsc⟩ := id C
  have h2 := k1 h0 h1 hL ls H locs hs hw hl hW hS
  simp only [List.map_cons, pm_c, Int64.ofInt_add] at h2
  exact lv_ladd hx hb k0 h2
theorem pw_lsub (C : pm_CX p R s m args meth c D Y b base n0 maxL E) : pm_R_lsub E (pm_GC p l e R s m args below meth c Q D Y b base n0 maxL E) := by
  intro pc L st n σ x y k0 k1 h0 h1 hL ls H locs hs hw hl hW hS
  obtain ⟨hx, hb, hml, hown, hts, hK, hN, hbs, ⟨hf1, hf2, hf3, hf4, hf5⟩, hini, hsc⟩ := id C
  have h2 := k1 h0 h1 hL ls H locs hs hw hl hW hS
  simp only [List.map_cons, pm_c, Int64.ofInt_sub] at h2
  exact lv_lsub hx hb k0 h2
theorem pw_lmul (C : pm_CX p R s m args meth c D Y b base n0 maxL E) : pm_R_lmul E (pm_GC p l e R s m args below meth c Q D Y b base n0 maxL E) := by
  intro pc L st n σ x y k0 k1 h0 h1 hL ls H locs hs hw hl hW hS
  obtain ⟨hx, hb, hml, hown, hts, hK, hN, hbs, ⟨hf1, hf2, hf3, hf4, hf5⟩, hini, hsc⟩ := id C
  have h2 := k1 h0 h1 hL ls H locs hs hw hl hW hS
  simp only [List.map_cons, pm_c, Int64.ofInt_mul] at h2
  exact lv_lmul hx hb k0 h2
theorem pw_ineg (C : pm_CX p R s m args meth c D Y b base n0 maxL E) : pm_R_ineg E (pm_GC p l e R s m args below meth c Q D Y b base n0 maxL E) := by
  intro pc L st n σ x k0 k1 h0 h1 hL ls H locs hs hw hl hW hS
  obtain ⟨hx, hb, hml, hown, hts, hK, hN, hbs, ⟨hf1, hf2, hf3, hf4, hf5⟩, hini, hsc⟩ := id C
  have h2 := k1 h0 h1 hL ls H locs hs hw hl hW hS
  simp only [List.map_cons, pm_c, Int32.ofInt_neg] at h2
  exact lv_ineg hx hb k0 h2
theorem pw_iand (C : pm_CX p R s m args meth c D Y b base n0 maxL E) : pm_R_iand E (pm_GC p l e R s m args below meth c Q D Y b base n0 maxL E) := by
  intro pc L st n σ x y k0 k1 h0 h1 hL ls H locs hs hw hl hW hS
  obtain ⟨hx, hb, hml, hown, hts, hK, hN, hbs, ⟨hf1, hf2, hf3, hf4, hf5⟩, hini, hsc⟩ := id C
  have h2 := k1 h0 h1 hL ls H locs hs hw hl hW hS
  simp only [List.map_cons, pm_c, pm_iand, Int32.ofInt_toInt] at h2
  exact lv_iand hx hb k0 h2
theorem pw_ior (C : pm_CX p R s m args meth c D Y b base n0 maxL E) : pm_R_ior E (pm_GC p l e R s m args below meth c Q D Y b base n0 maxL E) := by
  intro pc L st n σ x y k0 k1 h0 h1 hL ls H locs hs hw hl hW hS
  obtain ⟨hx, hb, hml, hown, hts, hK, hN, hbs, ⟨hf1, hf2, hf3, hf4, hf5⟩, hini, hsc⟩ := id C
  have h2 := k1 h0 h1 hL ls H locs hs hw hl hW hS
  simp only [List.map_cons, pm_c, pm_ior, Int32.ofInt_toInt] at h2
  exact lv_ior hx hb k0 h2
theorem pw_ishl (C : pm_CX p R s m args meth c D Y b base n0 maxL E) : pm_R_ishl E (pm_GC p l e R s m args below meth c Q D Y b base n0 maxL E) := by
  intro pc L st n σ x y k0 k1 h0 h1 hL ls H locs hs hw hl hW hS
  obtain ⟨hx, hb, hml, hown, hts, hK, hN, hbs, ⟨hf1, hf2, hf3, hf4, hf5⟩, hini, hsc⟩ := id C
  have h2 := k1 h0 h1 hL ls H locs hs hw hl hW hS
  simp only [List.map_cons, pm_c, pm_ishl, Int32.ofInt_toInt] at h2
  exact lv_ishl hx hb k0 h2
theorem pw_ishr (C : pm_CX p R s m args meth c D Y b base n0 maxL E) : pm_R_ishr E (pm_GC p l e R s m args below meth c Q D Y b base n0 maxL E) := by
  intro pc L st n σ x y k0 k1 h0 h1 hL ls H locs hs hw hl hW hS
  obtain ⟨hx, hb, hml, hown, hts, hK, hN, hbs, ⟨hf1, hf2, hf3, hf4, hf5⟩, hini, hsc⟩ := id C
  have h2 := k1 h0 h1 hL ls H locs hs hw hl hW hS
  simp only [List.map_cons, pm_c, pm_ishr, Int32.ofInt_toInt] at h2
  exact lv_ishr hx hb k0 h2
theorem pw_iushr (C : pm_CX p R s m args meth c D Y b base n0 maxL E) : pm_R_iushr E (pm_GC p l e R s m args below meth c Q D Y b base n0 maxL E) := by
  intro pc L st n σ x y k0 k1 h0 h1 hL ls H locs hs hw hl hW hS
  obtain ⟨hx, hb, hml, hown, hts, hK, hN, hbs, ⟨hf1, hf2, hf3, hf4, hf5⟩, hini, hsc⟩ := id C
  have h2 := k1 h0 h1 hL ls H locs hs hw hl hW hS
  simp only [List.map_cons, pm_c, pm_iushr, Int32.ofInt_toInt] at h2
  exact lv_iushr hx hb k0 rfl h2
theorem pw_i2b (C : pm_CX p R s m args meth c D Y b base n0 maxL E) : pm_R_i2b E (pm_GC p l e R s m args below meth c Q D Y b base n0 maxL E) := by
  intro pc L st n σ x k0 k1 h0 h1 hL ls H locs hs hw hl hW hS
  obtain ⟨hx, hb, hml, hown, hts, hK, hN, hbs, ⟨hf1, hf2, hf3, hf4, hf5⟩, hini, hsc⟩ := id C
  have h2 := k1 h0 h1 hL ls H locs hs hw hl hW hS
  simp only [List.map_cons, pm_c, pm_i2b, Int32.ofInt_toInt] at h2
  exact lv_i2b hx hb k0 rfl h2
theorem pw_i2s (C : pm_CX p R s m args meth c D Y b base n0 maxL E) : pm_R_i2s E (pm_GC p l e R s m args below meth c Q D Y b base n0 maxL E) := by
  intro pc L st n σ x k0 k1 h0 h1 hL ls H locs hs hw hl hW hS
  obtain ⟨hx, hb, hml, hown, hts, hK, hN, hbs, ⟨hf1, hf2, hf3, hf4, hf5⟩, hini, hsc⟩ := id C
  have h2 := k1 h0 h1 hL ls H locs hs hw hl hW hS
  simp only [List.map_cons, pm_c, pm_i2s, Int32.ofInt_toInt] at h2
  exact lv_i2s hx hb k0 rfl h2
theorem pm_ne0 {y : Int} (h : 1 ≤ y ∧ y ≤ 2147483647) : ¬ Int32.ofInt y = 0 := fun q => by
  have h2 := (pm_eqI ⟨by omega, by omega⟩ pm_in0).mp (show Int32.ofInt y = Int32.ofInt 0 from q)
  omega
theorem pm_div {x y : Int} (h : 0 ≤ x ∧ x ≤ 2147483647) (h2 : 1 ≤ y ∧ y ≤ 2147483647) : Int32.ofInt x / Int32.ofInt y = Int32.ofInt (x / y) := by
  have ex : Int32.ofInt x = nI x.toNat := by
    show _ = Int32.ofNat _
    rw [← Int32.ofInt_eq_ofNat]
    congr 1
    omega
  have ey : Int32.ofInt y = nI y.toNat := by
    show _ = Int32.ofNat _
    rw [← Int32.ofInt_eq_ofNat]
    congr 1
    omega
  rw [ex, ey, pk_div (by omega) (by omega) (by omega)]
  show Int32.ofNat _ = _
  rw [← Int32.ofInt_eq_ofNat]
  congr 1
  rw [Int.natCast_ediv]
  congr 1 <;> omega
theorem pm_rem {x y : Int} (h : 0 ≤ x ∧ x ≤ 2147483647) (h2 : 1 ≤ y ∧ y ≤ 2147483647) : Int32.ofInt x - Int32.ofInt x / Int32.ofInt y * Int32.ofInt y = Int32.ofInt (x % y) := by
  rw [pm_div h h2, ← Int32.ofInt_mul, ← Int32.ofInt_sub]
  congr 1
  rw [Int.emod_def, Int.mul_comm]
theorem pw_idiv (C : pm_CX p R s m args meth c D Y b base n0 maxL E) : pm_R_idiv E (pm_GC p l e R s m args below meth c Q D Y b base n0 maxL E) := by
  intro pc L st n σ x y k0 k1 k2 k3 h0 h1 hL ls H locs hs hw hl hW hS
  obtain ⟨hx, hb, hml, hown, hts, hK, hN, hbs, ⟨hf1, hf2, hf3, hf4, hf5⟩, hini, hsc⟩ := id C
  have h2 := k3 h0 h1 hL ls H locs hs hw hl hW hS
  simp only [List.map_cons, pm_c, ← pm_div k1 k2] at h2
  exact lv_idiv hx hb k0 (pm_ne0 k2) h2
theorem pw_irem (C : pm_CX p R s m args meth c D Y b base n0 maxL E) : pm_R_irem E (pm_GC p l e R s m args below meth c Q D Y b base n0 maxL E) := by
  intro pc L st n σ x y k0 k1 k2 k3 h0 h1 hL ls H locs hs hw hl hW hS
  obtain ⟨hx, hb, hml, hown, hts, hK, hN, hbs, ⟨hf1, hf2, hf3, hf4, hf5⟩, hini, hsc⟩ := id C
  have h2 := k3 h0 h1 hL ls H locs hs hw hl hW hS
  simp only [List.map_cons, pm_c, ← pm_rem k1 k2] at h2
  exact lv_irem hx hb k0 (pm_ne0 k2) h2
theorem pw_i2l (C : pm_CX p R s m args meth c D Y b base n0 maxL E) : pm_R_i2l E (pm_GC p l e R s m args below meth c Q D Y b base n0 maxL E) := by
  intro pc L st n σ x k0 k1 k2 h0 h1 hL ls H locs hs hw hl hW hS
  obtain ⟨hx, hb, hml, hown, hts, hK, hN, hbs, ⟨hf1, hf2, hf3, hf4, hf5⟩, hini, hsc⟩ := id C
  refine lv_i2l (v := Int64.ofInt x) hx hb k0 ?_ (k2 h0 h1 hL ls H locs hs hw hl hW hS)
  rw [← Int64.ofInt_int32ToInt, pm_ti k1]
theorem pm_inlT (x : Int64) : pm_inl x.toInt := ⟨Int64.le_toInt x, Int64.toInt_le x⟩
theorem pw_ldiv (C : pm_CX p R s m args meth c D Y b base n0 maxL E) : pm_R_ldiv E (pm_GC p l e R s m args below meth c Q D Y b base n0 maxL E) := by
  intro pc L st n σ x y k0 k1 k2 h0 h1 hL ls H locs hs hw hl hW hS
  obtain ⟨hx, hb, hml, hown, hts, hK, hN, hbs, ⟨hf1, hf2, hf3, hf4, hf5⟩, hini, hsc⟩ := id C
  have hne : ¬ Int64.ofInt y = 0 := fun q => by
    have h2 := (pm_eqL (y := 0) ⟨by omega, by omega⟩ ⟨by omega, by omega⟩).mp (show Int64.ofInt y = Int64.ofInt 0 from q)
    omega
  have h2 := k2 _ (pm_inlT (Int64.ofInt x / Int64.ofInt y)) h0 h1 hL ls H locs hs hw hl hW hS
  simp only [List.map_cons, pm_c, Int64.ofInt_toInt] at h2
  exact lv_ldiv hx hb k0 hne h2
theorem pw_land (C : pm_CX p R s m args meth c D Y b base n0 maxL E) : pm_R_land E (pm_GC p l e R s m args below meth c Q D Y b base n0 maxL E) := by
  intro pc L st n σ x y k0 k1 h0 h1 hL ls H locs hs hw hl hW hS
  obtain ⟨hx, hb, hml, hown, hts, hK, hN, hbs, ⟨hf1, hf2, hf3, hf4, hf5⟩, hini, hsc⟩ := id C
  have h2 := k1 _ (pm_inlT (Int64.ofInt x &&& Int64.ofInt y)) h0 h1 hL ls H locs hs hw hl hW hS
  simp only [List.map_cons, pm_c, Int64.ofInt_toInt] at h2
  exact lv_land hx hb k0 h2
theorem pw_lor (C : pm_CX p R s m args meth c D Y b base n0 maxL E) : pm_R_lor E (pm_GC p l e R s m args below meth c Q D Y b base n0 maxL E) := by
  intro pc L st n σ x y k0 k1 h0 h1 hL ls H locs hs hw hl hW hS
  obtain ⟨hx, hb, hml, hown, hts, hK, hN, hbs, ⟨hf1, hf2, hf3, hf4, hf5⟩, hini, hsc⟩ := id C
  have h2 := k1 _ (pm_inlT (Int64.ofInt x ||| Int64.ofInt y)) h0 h1 hL ls H locs hs hw hl hW hS
  simp only [List.map_cons, pm_c, Int64.ofInt_toInt] at h2
  exact lv_lor hx hb k0 h2
theorem pw_lshl (C : pm_CX p R s m args meth c D Y b base n0 maxL E) : pm_R_lshl E (pm_GC p l e R s m args below meth c Q D Y b base n0 maxL E) := by
  intro pc L st n σ x y k0 k1 h0 h1 hL ls H locs hs hw hl hW hS
  obtain ⟨hx, hb, hml, hown, hts, hK, hN, hbs, ⟨hf1, hf2, hf3, hf4, hf5⟩, hini, hsc⟩ := id C
  have h2 := k1 _ (pm_inlT (Int64.ofInt x <<< ((Int32.ofInt y).toInt64 &&& 63))) h0 h1 hL ls H locs hs hw hl hW hS
  simp only [List.map_cons, pm_c, Int64.ofInt_toInt] at h2
  exact lv_lshl hx hb k0 rfl h2
end PW
