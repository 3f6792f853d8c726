/-! ===== branches, fields, arrays over the machine ===== -/
section PW2
variable {p : Program} {l : Launch} {e : Env} {R : Room} {s : State} {m : MethodId} {args : Array Value} {below : List Frame} {meth : Method} {c : Code} {Q : State → Prop} {D : va_G} {Y : pm_Y} {b base n0 maxL : Nat} {E : pm_E}

theorem pw_if_eq (C : pm_CX p R s m args meth c D Y b base n0 maxL E) : pm_R_if_eq E (pm_GC p l e R s m args below meth c Q D Y b base n0 maxL E) := by
  intro pc L st n σ x off tgt k0 k1 k2 k3 k4 h0 h1 hL ls H locs hs hw hl hW hS
  obtain ⟨hx, hb, hml, hown, hts, hK, hN, hbs, ⟨hf1, hf2, hf3, hf4, hf5⟩, hini, hsc⟩ := id C
  have k3i := fun z => k3 z h0 h1 hL ls H locs hs hw hl hW hS
  have k4i := fun z => k4 z h0 h1 hL ls H locs hs hw hl hW hS
  exact lv_if_eq hx hb k0 k1 (fun q => k3i ((pm_eqI k2 pm_in0).mp q)) (fun q => k4i (fun z => q ((pm_eqI k2 pm_in0).mpr z)))
theorem pw_if_ne (C : pm_CX p R s m args meth c D Y b base n0 maxL E) : pm_R_if_ne E (pm_GC p l e R s m args below meth c Q D Y b base n0 maxL E) := by
  intro pc L st n σ x off tgt k0 k1 k2 k3 k4 h0 h1 hL ls H locs hs hw hl hW hS
  obtain ⟨hx, hb, hml, hown, hts, hK, hN, hbs, ⟨hf1, hf2, hf3, hf4, hf5⟩, hini, hsc⟩ := id C
  have k3i := fun z => k3 z h0 h1 hL ls H locs hs hw hl hW hS
  have k4i := fun z => k4 z h0 h1 hL ls H locs hs hw hl hW hS
  exact lv_if_ne hx hb k0 k1 (fun q => k3i (fun z => q ((pm_eqI k2 pm_in0).mpr z))) (fun q => k4i (fun z => z ((pm_eqI k2 pm_in0).mp q)))
theorem pw_if_lt (C : pm_CX p R s m args meth c D Y b base n0 maxL E) : pm_R_if_lt E (pm_GC p l e R s m args below meth c Q D Y b base n0 maxL E) := by
  intro pc L st n σ x off tgt k0 k1 k2 k3 k4 h0 h1 hL ls H locs hs hw hl hW hS
  obtain ⟨hx, hb, hml, hown, hts, hK, hN, hbs, ⟨hf1, hf2, hf3, hf4, hf5⟩, hini, hsc⟩ := id C
  have k3i := fun z => k3 z h0 h1 hL ls H locs hs hw hl hW hS
  have k4i := fun z => k4 z h0 h1 hL ls H locs hs hw hl hW hS
  exact lv_if_lt hx hb k0 k1 (fun q => k3i ((pm_ltI k2 pm_in0).mp q)) (fun q => k4i (fun z => q ((pm_ltI k2 pm_in0).mpr z)))
theorem pw_if_ge (C : pm_CX p R s m args meth c D Y b base n0 maxL E) : pm_R_if_ge E (pm_GC p l e R s m args below meth c Q D Y b base n0 maxL E) := by
  intro pc L st n σ x off tgt k0 k1 k2 k3 k4 h0 h1 hL ls H locs hs hw hl hW hS
  obtain ⟨hx, hb, hml, hown, hts, hK, hN, hbs, ⟨hf1, hf2, hf3, hf4, hf5⟩, hini, hsc⟩ := id C
  have k3i := fun z => k3 z h0 h1 hL ls H locs hs hw hl hW hS
  have k4i := fun z => k4 z h0 h1 hL ls H locs hs hw hl hW hS
  exact lv_if_ge hx hb k0 k1 (fun q => k3i ((pm_leI pm_in0 k2).mp q)) (fun q => k4i (fun z => q ((pm_leI pm_in0 k2).mpr z)))
theorem pw_if_gt (C : pm_CX p R s m args meth c D Y b base n0 maxL E) : pm_R_if_gt E (pm_GC p l e R s m args below meth c Q D Y b base n0 maxL E) := by
  intro pc L st n σ x off tgt k0 k1 k2 k3 k4 h0 h1 hL ls H locs hs hw hl hW hS
  obtain ⟨hx, hb, hml, hown, hts, hK, hN, hbs, ⟨hf1, hf2, hf3, hf4, hf5⟩, hini, hsc⟩ := id C
  have k3i := fun z => k3 z h0 h1 hL ls H locs hs hw hl hW hS
  have k4i := fun z => k4 z h0 h1 hL ls H locs hs hw hl hW hS
  exact lv_if_gt hx hb k0 k1 (fun q => k3i ((pm_ltI pm_in0 k2).mp q)) (fun q => k4i (fun z => q ((pm_ltI pm_in0 k2).mpr z)))
theorem pw_if_le (C : pm_CX p R s m args meth c D Y b base n0 maxL E) : pm_R_if_le E (pm_GC p l e R s m args below meth c Q D Y b base n0 maxL E) := by
  intro pc L st n σ x off tgt k0 k1 k2 k3 k4 h0 h1 hL ls H locs hs hw hl hW hS
  obtain ⟨hx, hb, hml, hown, hts, hK, hN, hbs, ⟨hf1, hf2, hf3, hf4, hf5⟩, hini, hsc⟩ := id C
  have k3i := fun z => k3 z h0 h1 hL ls H locs hs hw hl hW hS
  have k4i := fun z => k4 z h0 h1 hL ls H locs hs hw hl hW hS
  exact lv_if_le hx hb k0 k1 (fun q => k3i ((pm_leI k2 pm_in0).mp q)) (fun q => k4i (fun z => q ((pm_leI k2 pm_in0).mpr z)))
theorem pw_ic_eq (C : pm_CX p R s m args meth c D Y b base n0 maxL E) : pm_R_ic_eq E (pm_GC p l e R s m args below meth c Q D Y b base n0 maxL E) := by
  intro pc L st n σ x y off tgt k0 k1 k2 k3 k4 k5 h0 h1 hL ls H locs hs hw hl hW hS
  obtain ⟨hx, hb, hml, hown, hts, hK, hN, hbs, ⟨hf1, hf2, hf3, hf4, hf5⟩, hini, hsc⟩ := id C
  have k4i := fun z => k4 z h0 h1 hL ls H locs hs hw hl hW hS
  have k5i := fun z => k5 z h0 h1 hL ls H locs hs hw hl hW hS
  exact lv_icmp_eq hx hb k0 k1 (fun q => k4i ((pm_eqI k2 k3).mp q)) (fun q => k5i (fun z => q ((pm_eqI k2 k3).mpr z)))
theorem pw_ic_ne (C : pm_CX p R s m args meth c D Y b base n0 maxL E) : pm_R_ic_ne E (pm_GC p l e R s m args below meth c Q D Y b base n0 maxL E) := by
  intro pc L st n σ x y off tgt k0 k1 k2 k3 k4 k5 h0 h1 hL ls H locs hs hw hl hW hS
  obtain ⟨hx, hb, hml, hown, hts, hK, hN, hbs, ⟨hf1, hf2, hf3, hf4, hf5⟩, hini, hsc⟩ := id C
  have k4i := fun z => k4 z h0 h1 hL ls H locs hs hw hl hW hS
  have k5i := fun z => k5 z h0 h1 hL ls H locs hs hw hl hW hS
  exact lv_icmp_ne hx hb k0 k1 (fun q => k4i (fun z => q ((pm_eqI k2 k3).mpr z))) (fun q => k5i (fun z => z ((pm_eqI k2 k3).mp q)))
theorem pw_ic_lt (C : pm_CX p R s m args meth c D Y b base n0 maxL E) : pm_R_ic_lt E (pm_GC p l e R s m args below meth c Q D Y b base n0 maxL E) := by
  intro pc L st n σ x y off tgt k0 k1 k2 k3 k4 k5 h0 h1 hL ls H locs hs hw hl hW hS
  obtain ⟨hx, hb, hml, hown, hts, hK, hN, hbs, ⟨hf1, hf2, hf3, hf4, hf5⟩, hini, hsc⟩ := id C
  have k4i := fun z => k4 z h0 h1 hL ls H locs hs hw hl hW hS
  have k5i := fun z => k5 z h0 h1 hL ls H locs hs hw hl hW hS
  exact lv_icmp_lt hx hb k0 k1 (fun q => k4i ((pm_ltI k2 k3).mp q)) (fun q => k5i (fun z => q ((pm_ltI k2 k3).mpr z)))
theorem pw_ic_ge (C : pm_CX p R s m args meth c D Y b base n0 maxL E) : pm_R_ic_ge E (pm_GC p l e R s m args below meth c Q D Y b base n0 maxL E) := by
  intro pc L st n σ x y off tgt k0 k1 k2 k3 k4 k5 h0 h1 hL ls H locs hs hw hl hW hS
  obtain ⟨hx, hb, hml, hown, hts, hK, hN, hbs, ⟨hf1, hf2, hf3, hf4, hf5⟩, hini, hsc⟩ := id C
  have k4i := fun z => k4 z h0 h1 hL ls H locs hs hw hl hW hS
  have k5i := fun z => k5 z h0 h1 hL ls H locs hs hw hl hW hS
  exact lv_icmp_ge hx hb k0 k1 (fun q => k4i ((pm_leI k3 k2).mp q)) (fun q => k5i (fun z => q ((pm_leI k3 k2).mpr z)))
theorem pw_ic_gt (C : pm_CX p R s m args meth c D Y b base n0 maxL E) : pm_R_ic_gt E (pm_GC p l e R s m args below meth c Q D Y b base n0 maxL E) := by
  intro pc L st n σ x y off tgt k0 k1 k2 k3 k4 k5 h0 h1 hL ls H locs hs hw hl hW hS
  obtain ⟨hx, hb, hml, hown, hts, hK, hN, hbs, ⟨hf1, hf2, hf3, hf4, hf5⟩, hini, hsc⟩ := id C
  have k4i := fun z => k4 z h0 h1 hL ls H locs hs hw hl hW hS
  have k5i := fun z => k5 z h0 h1 hL ls H locs hs hw hl hW hS
  exact lv_icmp_gt hx hb k0 k1 (fun q => k4i ((pm_ltI k3 k2).mp q)) (fun q => k5i (fun z => q ((pm_ltI k3 k2).mpr z)))
theorem pw_ic_le (C : pm_CX p R s m args meth c D Y b base n0 maxL E) : pm_R_ic_le E (pm_GC p l e R s m args below meth c Q D Y b base n0 maxL E) := by
  intro pc L st n σ x y off tgt k0 k1 k2 k3 k4 k5 h0 h1 hL ls H locs hs hw hl hW hS
  obtain ⟨hx, hb, hml, hown, hts, hK, hN, hbs, ⟨hf1, hf2, hf3, hf4, hf5⟩, hini, hsc⟩ := id C
  have k4i := fun z => k4 z h0 h1 hL ls H locs hs hw hl hW hS
  have k5i := fun z => k5 z h0 h1 hL ls H locs hs hw hl hW hS
  exact lv_icmp_le hx hb k0 k1 (fun q => k4i ((pm_leI k2 k3).mp q)) (fun q => k5i (fun z => q ((pm_leI k2 k3).mpr z)))
theorem pw_ifA_eq (C : pm_CX p R s m args meth c D Y b base n0 maxL E) : pm_R_ifA_eq E (pm_GC p l e R s m args below meth c Q D Y b base n0 maxL E) := by
  intro pc L st n σ x off tgt k0 k1 k2 k3 h0 h1 hL ls H locs hs hw hl hW hS
  obtain ⟨hx, hb, hml, hown, hts, hK, hN, hbs, ⟨hf1, hf2, hf3, hf4, hf5⟩, hini, hsc⟩ := id C
  exact lv_if_eq hx hb k0 k1 (fun _ => k2 h0 h1 hL ls H locs hs hw hl hW hS) (fun _ => k3 h0 h1 hL ls H locs hs hw hl hW hS)
theorem pw_icA_eq (C : pm_CX p R s m args meth c D Y b base n0 maxL E) : pm_R_icA_eq E (pm_GC p l e R s m args below meth c Q D Y b base n0 maxL E) := by
  intro pc L st n σ x y off tgt k0 k1 k2 k3 h0 h1 hL ls H locs hs hw hl hW hS
  obtain ⟨hx, hb, hml, hown, hts, hK, hN, hbs, ⟨hf1, hf2, hf3, hf4, hf5⟩, hini, hsc⟩ := id C
  exact lv_icmp_eq hx hb k0 k1 (fun _ => k2 h0 h1 hL ls H locs hs hw hl hW hS) (fun _ => k3 h0 h1 hL ls H locs hs hw hl hW hS)
theorem pw_ifA_ne (C : pm_CX p R s m args meth c D Y b base n0 maxL E) : pm_R_ifA_ne E (pm_GC p l e R s m args below meth c Q D Y b base n0 maxL E) := by
  intro pc L st n σ x off tgt k0 k1 k2 k3 h0 h1 hL ls H locs hs hw hl hW hS
  obtain ⟨hx, hb, hml, hown, hts, hK, hN, hbs, ⟨hf1, hf2, hf3, hf4, hf5⟩, hini, hsc⟩ := id C
  exact lv_if_ne hx hb k0 k1 (fun _ => k2 h0 h1 hL ls H locs hs hw hl hW hS) (fun _ => k3 h0 h1 hL ls H locs hs hw hl hW hS)
theorem pw_icA_ne (C : pm_CX p R s m args meth c D Y b base n0 maxL E) : pm_R_icA_ne E (pm_GC p l e R s m args below meth c Q D Y b base n0 maxL E) := by
  intro pc L st n σ x y off tgt k0 k1 k2 k3 h0 h1 hL ls H locs hs hw hl hW hS
  obtain ⟨hx, hb, hml, hown, hts, hK, hN, hbs, ⟨hf1, hf2, hf3, hf4, hf5⟩, hini, hsc⟩ := id C
  exact lv_icmp_ne hx hb k0 k1 (fun _ => k2 h0 h1 hL ls H locs hs hw hl hW hS) (fun _ => k3 h0 h1 hL ls H locs hs hw hl hW hS)
theorem pw_goto (C : pm_CX p R s m args meth c D Y b base n0 maxL E) : pm_R_goto E (pm_GC p l e R s m args below meth c Q D Y b base n0 maxL E) := by
  intro pc L st n σ off tgt k0 k1 k2 h0 h1 hL ls H locs hs hw hl hW hS
  obtain ⟨hx, hb, hml, hown, hts, hK, hN, hbs, ⟨hf1, hf2, hf3, hf4, hf5⟩, hini, hsc⟩ := id C
  exact lv_goto hx hb k0 k1 (k2 h0 h1 hL ls H locs hs hw hl hW hS)
theorem pw_lcmp (C : pm_CX p R s m args meth c D Y b base n0 maxL E) : pm_R_lcmp E (pm_GC p l e R s m args below meth c Q D Y b base n0 maxL E) := by
  intro pc L st n σ x y k0 k1 k2 k3 h0 h1 hL ls H locs hs hw hl hW hS
  obtain ⟨hx, hb, hml, hown, hts, hK, hN, hbs, ⟨hf1, hf2, hf3, hf4, hf5⟩, hini, hsc⟩ := id C
  refine W.lcmp hx hb k0 ?_
  unfold lg_cmp
  rcases Int.lt_trichotomy x y with q | q | q
  · have e1 : ¬ Int64.ofInt x > Int64.ofInt y := fun z => by have := (pm_ltL k2 k1).mp z; omega
    have e2 : ¬ Int64.ofInt x = Int64.ofInt y := fun z => by have := (pm_eqL k1 k2).mp z; omega
    rw [if_neg e1, if_neg e2]
    exact k3 (-1) (Or.inl ⟨q, rfl⟩) h0 h1 hL ls H locs hs hw hl hW hS
  · have e1 : ¬ Int64.ofInt x > Int64.ofInt y := fun z => by have := (pm_ltL k2 k1).mp z; omega
    rw [if_neg e1, if_pos (by rw [q])]
    exact k3 0 (Or.inr (Or.inl ⟨q, rfl⟩)) h0 h1 hL ls H locs hs hw hl hW hS
  · have e1 : Int64.ofInt x > Int64.ofInt y := (pm_ltL k2 k1).mpr q
    rw [if_pos e1]
    exact k3 1 (Or.inr (Or.inr ⟨q, rfl⟩)) h0 h1 hL ls H locs hs hw hl hW hS
theorem pw_lcmpA (C : pm_CX p R s m args meth c D Y b base n0 maxL E) : pm_R_lcmpA E (pm_GC p l e R s m args below meth c Q D Y b base n0 maxL E) := by
  intro pc L st n σ x y k0 k1 h0 h1 hL ls H locs hs hw hl hW hS
  obtain ⟨hx, hb, hml, hown, hts, hK, hN, hbs, ⟨hf1, hf2, hf3, hf4, hf5⟩, hini, hsc⟩ := id C
  refine W.lcmp hx hb k0 ?_
  unfold lg_cmp
  by_cases e1 : Int64.ofInt x > Int64.ofInt y
  · rw [if_pos e1]
    refine k1 1 ⟨by omega, by omega⟩ (fun q => ?_) h0 h1 hL ls H locs hs hw hl hW hS
    rw [q] at e1
    exact absurd e1 (Int64.lt_irrefl)
  · rw [if_neg e1]
    by_cases e2 : Int64.ofInt x = Int64.ofInt y
    · rw [if_pos e2]
      exact k1 0 ⟨by omega, by omega⟩ (fun _ => rfl) h0 h1 hL ls H locs hs hw hl hW hS
    · rw [if_neg e2]
      exact k1 (-1) ⟨by omega, by omega⟩ (fun q => absurd (by rw [q]) e2) h0 h1 hL ls H locs hs hw hl hW hS
theorem pw_popi (C : pm_CX p R s m args meth c D Y b base n0 maxL E) : pm_R_popi E (pm_GC p l e R s m args below meth c Q D Y b base n0 maxL E) := by
  intro pc L st n σ x k0 k1 h0 h1 hL ls H locs hs hw hl hW hS
  obtain ⟨hx, hb, hml, hown, hts, hK, hN, hbs, ⟨hf1, hf2, hf3, hf4, hf5⟩, hini, hsc⟩ := id C
  exact lv_pop hx hb k0 rfl (k1 h0 h1 hL ls H locs hs hw hl hW hS)
theorem pw_pop2l (C : pm_CX p R s m args meth c D Y b base n0 maxL E) : pm_R_pop2l E (pm_GC p l e R s m args below meth c Q D Y b base n0 maxL E) := by
  intro pc L st n σ x k0 k1 h0 h1 hL ls H locs hs hw hl hW hS
  obtain ⟨hx, hb, hml, hown, hts, hK, hN, hbs, ⟨hf1, hf2, hf3, hf4, hf5⟩, hini, hsc⟩ := id C
  exact lv_pop2_2 hx hb k0 rfl (k1 h0 h1 hL ls H locs hs hw hl hW hS)
theorem pw_dupa (C : pm_CX p R s m args meth c D Y b base n0 maxL E) : pm_R_dupa E (pm_GC p l e R s m args below meth c Q D Y b base n0 maxL E) := by
  intro pc L st n σ x k0 k1 h0 h1 hL ls H locs hs hw hl hW hS
  obtain ⟨hx, hb, hml, hown, hts, hK, hN, hbs, ⟨hf1, hf2, hf3, hf4, hf5⟩, hini, hsc⟩ := id C
  exact lv_dup hx hb k0 rfl (k1 h0 h1 hL ls H locs hs hw hl hW hS)
theorem pw_dup2 (C : pm_CX p R s m args meth c D Y b base n0 maxL E) : pm_R_dup2 E (pm_GC p l e R s m args below meth c Q D Y b base n0 maxL E) := by
  intro pc L st n σ x y k0 k1 h0 h1 hL ls H locs hs hw hl hW hS
  obtain ⟨hx, hb, hml, hown, hts, hK, hN, hbs, ⟨hf1, hf2, hf3, hf4, hf5⟩, hini, hsc⟩ := id C
  exact lv_dup2_11 hx hb k0 rfl rfl (k1 h0 h1 hL ls H locs hs hw hl hW hS)
theorem pm_sw_at {pc : Nat} {x : Int} {K : Nat → Prop} : ∀ (offs : List Int) (lo : Int), pm_sw pc x lo offs K → ∀ (j : Nat) (o : Int), offs[j]? = some o → x = lo + (j : Int) → 0 ≤ (pc : Int) + o ∧ K ((pc : Int) + o).toNat
  | [], _, _, j, o, hj, _ => by cases hj
  | a :: os, lo, h, 0, o, hj, hx => by
    cases hj
    exact ⟨h.1, h.2.1 (by omega)⟩
  | a :: os, lo, h, j + 1, o, hj, hx => pm_sw_at os (lo + 1) h.2.2 j o hj (by omega)
theorem pw_tsw (C : pm_CX p R s m args meth c D Y b base n0 maxL E) : pm_R_tsw E (pm_GC p l e R s m args below meth c Q D Y b base n0 maxL E) := by
  intro pc L st n σ dflt lo hi offs len x k0 k1 k2 k3 k4 k5 h0 h1 hL ls H locs hs hw hl hW hS
  obtain ⟨hx, hb, hml, hown, hts, hK, hN, hbs, ⟨hf1, hf2, hf3, hf4, hf5⟩, hini, hsc⟩ := id C
  by_cases q : x < lo ∨ hi < x
  · exact lv_tableOut hx hb k0 (by rw [pm_ti k1]; exact q) (by omega) (k4 q h0 h1 hL ls H locs hs hw hl hW hS)
  · have h3 : offs.toList[(x - lo).toNat]? = some (offs.toList[(x - lo).toNat]'(by rw [Array.length_toList]; omega)) := List.getElem?_eq_getElem _
    obtain ⟨g1, g2⟩ := pm_sw_at _ _ k3 _ _ h3 (by omega)
    refine lv_tableIn (off := offs.toList[(x - lo).toNat]'(by rw [Array.length_toList]; omega)) hx hb k0 (by rw [pm_ti k1]; omega) (by rw [pm_ti k1]; omega) ?_ (by omega) (g2 h0 h1 hL ls H locs hs hw hl hW hS)
    rw [pm_ti k1, ← Array.getElem?_toList]
    exact h3
theorem pw_lsw2 (C : pm_CX p R s m args meth c D Y b base n0 maxL E) : pm_R_lsw2 E (pm_GC p l e R s m args below meth c Q D Y b base n0 maxL E) := by
  intro pc L st n σ dflt o0 o1 len x k0 k1 k2 k3 k4 k5 h0 h1 hL ls H locs hs hw hl hW hS
  obtain ⟨hx, hb, hml, hown, hts, hK, hN, hbs, ⟨hf1, hf2, hf3, hf4, hf5⟩, hini, hsc⟩ := id C
  obtain ⟨g0, g1, g2⟩ := k2
  by_cases q0 : x = 0
  · exact lv_lookup (off := o0) hx hb k0 rfl (by rw [pm_ti k1, q0]; rfl) (by omega) (k3 q0 h0 h1 hL ls H locs hs hw hl hW hS)
  by_cases q1 : x = 1
  · exact lv_lookup (off := o1) hx hb k0 rfl (by rw [pm_ti k1, q1]; rfl) (by omega) (k4 q1 h0 h1 hL ls H locs hs hw hl hW hS)
  · refine lv_lookup (off := dflt) hx hb k0 rfl ?_ (by omega) (k5 q0 q1 h0 h1 hL ls H locs hs hw hl hW hS)
    have e0 : ¬ Int32.ofInt x = 0 := fun z => q0 ((pm_eqI k1 pm_in0).mp z)
    have e1 : ¬ Int32.ofInt x = 1 := fun z => q1 ((pm_eqI k1 ⟨by omega, by omega⟩).mp (show _ = Int32.ofInt 1 from z))
    refine (lv_osw e0 (by decide)).trans ((lv_osw e1 (by decide)).trans ?_)
    rfl
theorem pm_cl_get {ci : Nat} {r : vw_C} (h : vwCl[ci]? = some r) : ∀ w ∈ u_ws r.1 r.2.1 r.2.2, w ∈ lw_tbl ∧ goodWord w = true := by
  have hl : ci < 12 := (List.getElem?_eq_some_iff.mp h).1
  have h2 := pm_cls_ok0 ci hl
  rw [List.getD_eq_getElem?_getD, h] at h2
  exact h2
theorem pm_FL_of {own : String} {idx ci k : Nat} (h : pm_FL own idx ci k = true) : ∃ r : vw_C, vwCl[ci]? = some r ∧ k < r.2.2 ∧ Cond.fieldLink own idx (r.2.1 k).1 (r.2.1 k).2.1 (r.2.1 k).2.2.1 ∈ lw_tbl := by
  unfold pm_FL at h
  cases hr : vwCl[ci]? with
  | none => rw [hr] at h; cases h
  | some r =>
    rw [hr] at h
    simp only [Bool.and_eq_true, decide_eq_true_eq] at h
    exact ⟨r, rfl, h.1, h.2⟩
/-- the types of a kind's fields -/
def pm_ty (ci : Nat) : Nat → FieldType := match ci with
  | 0 => tyX0 | 1 => tyX1 | 2 => tyX2 | 3 => tyX3 | 4 => tyX4 | 5 => tyX5 | 6 => tyX6 | 7 => tyX7 | 8 => tyX8 | 9 => tyX9 | 10 => tyX10 | _ => tyX11
theorem pm_ty_ok {ci : Nat} {r : vw_C} (h : vwCl[ci]? = some r) : (∀ k, k < r.2.2 → parseFieldDescriptor (r.2.1 k).2.2.1 = some (pm_ty ci k)) ∧ (∀ a, a < r.2.2 → ∀ b, b < r.2.2 → a ≠ b → (r.2.1 a).2.1 ≠ (r.2.1 b).2.1) := by
  match ci, h with
  | 0, h => cases h; exact ⟨tyX0_ok, nmX0⟩
  | 1, h => cases h; exact ⟨tyX1_ok, nmX1⟩
  | 2, h => cases h; exact ⟨tyX2_ok, nmX2⟩
  | 3, h => cases h; exact ⟨tyX3_ok, nmX3⟩
  | 4, h => cases h; exact ⟨tyX4_ok, nmX4⟩
  | 5, h => cases h; exact ⟨tyX5_ok, nmX5⟩
  | 6, h => cases h; exact ⟨tyX6_ok, nmX6⟩
  | 7, h => cases h; exact ⟨tyX7_ok, nmX7⟩
  | 8, h => cases h; exact ⟨tyX8_ok, nmX8⟩
  | 9, h => cases h; exact ⟨tyX9_ok, nmX9⟩
  | 10, h => cases h; exact ⟨tyX10_ok, nmX10⟩
  | 11, h => cases h; exact ⟨tyX11_ok, nmX11⟩
  | _ + 12, h => cases h
theorem pm_ce0 {Y : pm_Y} {b base c ci nf : Nat} {σ : pm_H} (h : pm_kd c = (0, ci, nf)) : pm_ce Y b base σ c 0 = .inr (ci, (pm_fs c).mapIdx (pm_fd b base c σ)) := by
  unfold pm_ce
  rw [h]
  rfl
theorem pm_ce1 {Y : pm_Y} {b base c N M : Nat} {σ : pm_H} {r : Int} (h : pm_kd c = (1, N, M)) : pm_ce Y b base σ c r = .inl (Y.1, N, .inl (pm_fi σ c r)) := by
  unfold pm_ce
  rw [h]
  rfl
theorem pm_ce2 {Y : pm_Y} {b base c N M : Nat} {σ : pm_H} {r : Int} (h : pm_kd c = (2, N, M)) : pm_ce Y b base σ c r = .inl (Y.2.1, N, .inr (.inl (pm_fj σ c r))) := by
  unfold pm_ce
  rw [h]
  rfl
theorem pm_ce3 {Y : pm_Y} {b base c N M : Nat} {σ : pm_H} {r : Int} (h : pm_kd c = (3, N, M)) : pm_ce Y b base σ c r = .inl (Y.2.2.1, N, .inl (pm_fi σ c r)) := by
  unfold pm_ce
  rw [h]
  rfl
theorem pm_ce4 {Y : pm_Y} {b base c N M : Nat} {σ : pm_H} {r : Int} (h : pm_kd c = (4, M, N)) (hr : 0 ≤ r) : pm_ce Y b base σ c r = .inl (Y.1, N, .inl (pm_fi σ c r)) := by
  unfold pm_ce
  rw [h]
  exact if_neg (by omega)
theorem pm_ce5 {Y : pm_Y} {b base c N M : Nat} {σ : pm_H} {r : Int} (h : pm_kd c = (5, M, N)) (hr : 0 ≤ r) : pm_ce Y b base σ c r = .inl (Y.2.1, N, .inr (.inl (pm_fj σ c r))) := by
  unfold pm_ce
  rw [h]
  exact if_neg (by omega)
theorem pm_ce4o {Y : pm_Y} {b base c N M : Nat} {σ : pm_H} (h : pm_kd c = (4, M, N)) : pm_ce Y b base σ c (-1) = .inl (Y.2.2.2.1, M, .inr (.inr (.inr (.inr (pm_fq b base c M))))) := by
  unfold pm_ce
  rw [h]
  exact if_pos (by omega)
theorem pm_ce5o {Y : pm_Y} {b base c N M : Nat} {σ : pm_H} (h : pm_kd c = (5, M, N)) : pm_ce Y b base σ c (-1) = .inl (Y.2.2.2.2, M, .inr (.inr (.inr (.inr (pm_fq b base c M))))) := by
  unfold pm_ce
  rw [h]
  exact if_pos (by omega)
/-- a plain cell's place in the world, and its address -/
theorem pm_at1 {Y : pm_Y} {b base n c t N M : Nat} {σ : pm_H} (h : pm_kd c = (t, N, M)) (ht : t < 4) (hn : pm_pos c < n) : (pm_ws Y b base n σ)[pm_pos c]? = some (base + pm_pos c, pm_ce Y b base σ c 0) := by
  rw [pm_ws_get hn, pm_ph1 c (pm_kd_lt h (by omega)) (by rw [h]; exact ht)]
theorem pm_ad1 {b base c t N M : Nat} (h : pm_kd c = (t, N, M)) (ht : t < 4) (r : Int) : pm_ad b base c r = base + pm_pos c := by
  have hc := pm_kd_lt h (by omega)
  unfold pm_ad
  rw [if_neg (by omega), if_pos (by rw [h]; exact ht)]
  rfl
theorem pm_at2 {Y : pm_Y} {b base n c t N M : Nat} {σ : pm_H} {r : Int} (h : pm_kd c = (t, M, N)) (ht : 4 ≤ t) (ht2 : t < 9) (hr : 0 ≤ r ∧ r < (M : Int)) (hn : pm_pos c + M < n) : (pm_ws Y b base n σ)[pm_pos c + 1 + r.toNat]? = some (base + (pm_pos c + 1 + r.toNat), pm_ce Y b base σ c r) := by
  have e := (pm_ph2 c (pm_kd_lt h ht2) (by rw [h]; exact ht)).2 r.toNat (by rw [h]; show r.toNat < M; omega)
  rw [pm_ws_get (by omega), e]
  show some (_, pm_ce Y b base σ c ((r.toNat : Nat) : Int)) = _
  rw [show ((r.toNat : Nat) : Int) = r by omega]
theorem pm_ad2 {b base c t N M : Nat} {r : Int} (h : pm_kd c = (t, M, N)) (ht : 4 ≤ t) (ht2 : t < 9) (hr : 0 ≤ r) : pm_ad b base c r = base + (pm_pos c + 1 + r.toNat) := by
  have hc := pm_kd_lt h ht2
  unfold pm_ad
  rw [if_neg (by omega), if_neg (by rw [h]; show ¬ t < 4; omega)]
  omega
theorem pm_at2o {Y : pm_Y} {b base n c t N M : Nat} {σ : pm_H} (h : pm_kd c = (t, M, N)) (ht : 4 ≤ t) (ht2 : t < 9) (hn : pm_pos c < n) : (pm_ws Y b base n σ)[pm_pos c]? = some (base + pm_pos c, pm_ce Y b base σ c (-1)) := by
  have e := (pm_ph2 c (pm_kd_lt h ht2) (by rw [h]; exact ht)).1
  rw [pm_ws_get hn, e]
theorem pm_ad2o {b base c t N M : Nat} (h : pm_kd c = (t, M, N)) (ht : 4 ≤ t) (ht2 : t < 9) : pm_ad b base c (-1) = base + pm_pos c := by
  have hc := pm_kd_lt h ht2
  unfold pm_ad
  rw [if_neg (by omega), if_neg (by rw [h]; show ¬ t < 4; omega)]
  rfl
theorem pm_fd_at {b base c k : Nat} {σ : pm_H} {f : Option (Nat × Int)} (h : (pm_fs c)[k]? = some f) : ((pm_fs c).mapIdx (pm_fd b base c σ))[k]? = some (pm_fd b base c σ k f) := by
  rw [List.getElem?_mapIdx, h]
  rfl
theorem pw_getI (C : pm_CX p R s m args meth c D Y b base n0 maxL E) : pm_R_getI E (pm_GC p l e R s m args below meth c Q D Y b base n0 maxL E) := by
  intro pc L st n σ idx c ci nf k v k0 k1 k2 k3 k4 h0 h1 hL ls H locs hs hw hl hW hS
  obtain ⟨hx, hb, hml, hown, hts, hK, hN, hbs, ⟨hf1, hf2, hf3, hf4, hf5⟩, hini, hsc⟩ := id C
  obtain ⟨g1, g2, g3⟩ := k1
  obtain ⟨r, hr, hk, hm⟩ := pm_FL_of g2
  have h2 := k4 h0 h1 hL ls H locs hs hw hl hW hS
  rw [← k3] at h2
  have ha := pm_at1 (Y := Y) (b := b) (base := base) (σ := σ) g1 (by omega) k2
  rw [pm_ce0 g1] at ha
  have e : pm_c b base (.inr (.inr (c, 0))) = .ref (base + pm_pos c) := congrArg Value.ref (pm_ad1 g1 (by omega) 0)
  simp only [List.map_cons, e]
  refine va_get (D := D) (C := r.1) (T := r.2.1) (N := r.2.2) (Ts := u_ws r.1 r.2.1 r.2.2) hx hb (fun w hw => hts w (pm_cl_get hr w hw).1 (pm_cl_get hr w hw).2) (fun w hw => hw) hown hK hW.2 (pm_pos c) ha hr k hk (hts _ hm rfl) (fun _ q => q) (pm_fd_at g3) k0 ?_
  exact h2
theorem pw_getR (C : pm_CX p R s m args meth c D Y b base n0 maxL E) : pm_R_getR E (pm_GC p l e R s m args below meth c Q D Y b base n0 maxL E) := by
  intro pc L st n σ idx c ci nf k q k0 k1 k2 k3 k4 h0 h1 hL ls H locs hs hw hl hW hS
  obtain ⟨hx, hb, hml, hown, hts, hK, hN, hbs, ⟨hf1, hf2, hf3, hf4, hf5⟩, hini, hsc⟩ := id C
  obtain ⟨g1, g2, g3⟩ := k1
  obtain ⟨r, hr, hk, hm⟩ := pm_FL_of g2
  have h2 := k4 h0 h1 hL ls H locs hs hw hl hW hS
  have ha := pm_at1 (Y := Y) (b := b) (base := base) (σ := σ) g1 (by omega) k2
  rw [pm_ce0 g1] at ha
  have e : pm_c b base (.inr (.inr (c, 0))) = .ref (base + pm_pos c) := congrArg Value.ref (pm_ad1 g1 (by omega) 0)
  simp only [List.map_cons, e]
  refine va_get (D := D) (C := r.1) (T := r.2.1) (N := r.2.2) (Ts := u_ws r.1 r.2.1 r.2.2) (v := .ref (pm_ad b base q.1 q.2)) hx hb (fun w hw => hts w (pm_cl_get hr w hw).1 (pm_cl_get hr w hw).2) (fun w hw => hw) hown hK hW.2 (pm_pos c) ha hr k hk (hts _ hm rfl) (fun _ q => q) ?_ k0 ?_
  · rw [pm_fd_at g3]
    exact congrArg some (if_pos k3)
  · exact h2
theorem pm_wr_put {D : va_G} {Y : pm_Y} {b base n k : Nat} {σ τ : pm_H} {H H1 : Heap} (hW : pm_wr D Y b base n σ H) (hz : H1.size = H.size) (oq : ∀ q, q ≠ base + k → H1[q]? = H[q]?)
    (hc : va_at D vwCl (base + k, pm_ce Y b base τ (pm_ph k).1 (pm_ph k).2) H1) (ho : ∀ j, j ≠ k → pm_ce Y b base τ (pm_ph j).1 (pm_ph j).2 = pm_ce Y b base σ (pm_ph j).1 (pm_ph j).2) : pm_wr D Y b base n τ H1 := by
  refine ⟨hz.trans hW.1, fun j q hq => ?_⟩
  have hj : j < n := by
    have := (List.getElem?_eq_some_iff.mp hq).1
    rwa [pm_ws_len] at this
  rw [pm_ws_get hj] at hq
  cases hq
  by_cases e : j = k
  · subst e
    exact hc
  · have h1 := hW.2 j _ (pm_ws_get hj)
    rw [ho j e]
    exact h1.kept (oq _ (show base + j ≠ base + k by omega))
theorem pm_fi_up {σ : pm_H} {c k : Nat} {r i x : Int} (h : ((k : Nat) : Int) = i) (v : Int32 → Value) : updV (fun j => v (pm_fi σ c r j)) k (v (Int32.ofInt x)) = fun j => v (pm_fi (pm_up σ c r i x) c r j) := by
  funext j
  unfold updV
  by_cases e : j = k
  · subst e
    rw [if_pos rfl]
    unfold pm_fi
    rw [h, pm_up_eq]
  · rw [if_neg e]
    unfold pm_fi
    rw [pm_up_ne (fun z => e (by omega))]
theorem pm_fj_up {σ : pm_H} {c k : Nat} {r i x : Int} (h : ((k : Nat) : Int) = i) (v : Int64 → Value) : updV (fun j => v (pm_fj σ c r j)) k (v (Int64.ofInt x)) = fun j => v (pm_fj (pm_up σ c r i x) c r j) := by
  funext j
  unfold updV
  by_cases e : j = k
  · subst e
    rw [if_pos rfl]
    unfold pm_fj
    rw [h, pm_up_eq]
  · rw [if_neg e]
    unfold pm_fj
    rw [pm_up_ne (fun z => e (by omega))]
/-- a plain cell's world behind a write -/
theorem pm_wr1 {D : va_G} {Y : pm_Y} {b base n c t N M : Nat} {σ : pm_H} {r i x : Int} {H H1 : Heap} (hk : pm_kd c = (t, N, M)) (ht : t < 4) (hW : pm_wr D Y b base n σ H) (hz : H1.size = H.size) (oq : ∀ q, q ≠ base + pm_pos c → H1[q]? = H[q]?)
    (hc : va_at D vwCl (base + pm_pos c, pm_ce Y b base (pm_up σ c r i x) c 0) H1) : pm_wr D Y b base n (pm_up σ c r i x) H1 := by
  have hl := pm_kd_lt hk (by omega)
  have h4 : (pm_kd c).1 < 4 := by rw [hk]; exact ht
  refine pm_wr_put hW hz oq (by rw [pm_ph1 c hl h4]; exact hc) (fun j hj => pm_ce_c (fun r' i' => pm_up_ne (fun z => hj (pm_ph1u hl h4 z.1))))
/-- a row's world behind a write -/
theorem pm_wr2 {D : va_G} {Y : pm_Y} {b base n c t N M : Nat} {σ : pm_H} {r i x : Int} {H H1 : Heap} (hk : pm_kd c = (t, M, N)) (ht : 4 ≤ t) (ht2 : t < 9) (hr : 0 ≤ r ∧ r < (M : Int)) (hW : pm_wr D Y b base n σ H) (hz : H1.size = H.size) (oq : ∀ q, q ≠ base + (pm_pos c + 1 + r.toNat) → H1[q]? = H[q]?)
    (hc : va_at D vwCl (base + (pm_pos c + 1 + r.toNat), pm_ce Y b base (pm_up σ c r i x) c r) H1) : pm_wr D Y b base n (pm_up σ c r i x) H1 := by
  have hl := pm_kd_lt hk ht2
  have h4 : 4 ≤ (pm_kd c).1 := by rw [hk]; exact ht
  have e := (pm_ph2 c hl h4).2 r.toNat (by rw [hk]; show r.toNat < M; omega)
  have er : ((r.toNat : Nat) : Int) = r := by omega
  rw [er] at e
  refine pm_wr_put hW hz oq (by rw [e]; exact hc) (fun j hj => ?_)
  by_cases q : (pm_ph j).1 = c
  · rw [q]
    refine pm_ce_r (by omega) (fun i' => pm_up_ne (fun z => ?_))
    have h1 := pm_ph2u hl h4 q
    have h2 := z.2.1
    omega
  · exact pm_ce_c (fun r' i' => pm_up_ne (fun z => q z.1))
theorem pm_ft : ∀ c, c < 67 → ∀ k, k < 31 → (pm_kd c).1 = 0 → ((pm_fs c)[k]?.getD (some (0, 0))).isNone = true → pm_ty (pm_kd c).2.1 k = .int := by decide +kernel
theorem pm_fr : ∀ c, c < 67 → ∀ k, k < 31 → (pm_kd c).1 = 0 → ((pm_fs c)[k]?.getD none).isSome = true → (pm_ty (pm_kd c).2.1 k).isReference = true := by decide +kernel
theorem pm_fl31 : ∀ c, c < 67 → (pm_fs c).length < 31 := by decide +kernel
theorem pm_dcl : ∀ ci, ci < 12 → ∀ k, k < 30 → ((vwCl.getD ci (RX0, TX0, 0)).2.1 k).1 = (vwCl.getD ci (RX0, TX0, 0)).1 := by decide +kernel
theorem pm_fs_set {b base c k : Nat} {σ τ : pm_H} {f : Option (Nat × Int)} {v : Value} (h0 : (pm_fs c)[k]? = some f) (hv : pm_fd b base c τ k f = v) (ho : ∀ j g, j ≠ k → pm_fd b base c τ j g = pm_fd b base c σ j g) : ((pm_fs c).mapIdx (pm_fd b base c σ)).set k v = (pm_fs c).mapIdx (pm_fd b base c τ) := by
  apply List.ext_getElem?
  intro j
  have hl : k < (pm_fs c).length := (List.getElem?_eq_some_iff.mp h0).1
  rw [List.getElem?_set]
  by_cases e : k = j
  · subst e
    rw [if_pos rfl, if_pos (by rw [List.length_mapIdx]; exact hl), List.getElem?_mapIdx, h0, ← hv]
    rfl
  · rw [if_neg e, List.getElem?_mapIdx, List.getElem?_mapIdx]
    congr 1
    funext g
    exact (ho j g (Ne.symm e)).symm
theorem pm_refs (ty : FieldType) (h : ty.isReference = true) (a : Nat) : narrow ty (.ref a) = .ref a ∧ fits ty (.ref a) = true := by
  cases ty <;> first | exact ⟨rfl, rfl⟩ | cases h
theorem pw_putI (C : pm_CX p R s m args meth c D Y b base n0 maxL E) : pm_R_putI E (pm_GC p l e R s m args below meth c Q D Y b base n0 maxL E) := by
  intro pc L st n σ idx c ci nf k x k0 k1 k2 k3 h0 h1 hL ls H locs hs hw hl hW hS
  obtain ⟨hx, hb, hml, hown, hts, hK, hN, hbs, ⟨hf1, hf2, hf3, hf4, hf5⟩, hini, hsc⟩ := id C
  obtain ⟨g1, g2, g3, g4⟩ := k1
  obtain ⟨r, hr, hk, hm⟩ := pm_FL_of g2
  have hl67 := pm_kd_lt g1 (by omega)
  have hk31 : k < 31 := Nat.lt_trans (List.getElem?_eq_some_iff.mp g3).1 (pm_fl31 c hl67)
  have ha := pm_at1 (Y := Y) (b := b) (base := base) (σ := σ) g1 (by omega) k2
  rw [pm_ce0 g1] at ha
  have e : pm_c b base (.inr (.inr (c, 0))) = .ref (base + pm_pos c) := congrArg Value.ref (pm_ad1 g1 (by omega) 0)
  simp only [List.map_cons, e]
  have htb : ∀ w ∈ u_ws r.1 r.2.1 r.2.2, w.before args s = true := fun w hw => hts w (pm_cl_get hr w hw).1 (pm_cl_get hr w hw).2
  have hap := va_apart (own := E.1) htb (fun w hw => hw) (pm_ty ci) (pm_ty_ok hr).1 (pm_ty_ok hr).2 hK hr
  obtain ⟨r9, h1r, cell, q1, q2, q3, q4⟩ := hW.2 _ _ ha
  have hr9 : r9 = r := Option.some.inj (h1r.symm.trans hr)
  subst hr9
  obtain ⟨hSl, hfc, kC, hkC, hkind⟩ := hK.1 ci _ hr
  obtain ⟨cf, kf, fi, f, hi, hsl⟩ := hSl k hk
  have hlay := htb _ (u_in_lay hk)
  unfold u_lay at hlay
  have hst := (u_facts hfc hkC (u_lays htb (fun w hw => hw) hk) hi).1
  have hfin : (r9.2.1 k).2.2.2 = false := by
    unfold pm_fin at g4
    rw [hr] at g4
    exact g4
  rw [if_neg (by rw [hfin]; decide)] at hlay
  have htyk : pm_ty ci k = .int := by
    have := pm_ft c hl67 k hk31 (by rw [g1]) (by rw [g3]; rfl)
    rw [g1] at this
    exact this
  have h6 := u_store (v := .int (Int32.ofInt x)) hfc hkC hkind hlay hi (((pm_ty_ok hr).1 k hk).trans (congrArg some htyk)) rfl rfl
  refine W.putK hx hb (f := f) ⟨hown, hts _ hm rfl, ⟨_, _, _, hi⟩, hst⟩ (by rw [q2]; exact h6) q1 q3 (by rw [hsl]; exact k2_hasslot (q4 k hk)) rfl rfl k0 fun H' e1 e2 e3 => ?_
  rw [hsl] at e1 ⊢
  refine k3 _ rfl h0 h1 hL ls H' _ hs hw hl (pm_wr1 g1 (by omega) hW e2 e3 ?_) (hS.put e2 e3 (by show base ≤ base + pm_pos c; omega))
  rw [pm_ce0 g1]
  refine ⟨_, hr, t_OB.to (V := updV (vp_V ((pm_fs c).mapIdx (pm_fd b base c σ))) k (.int (Int32.ofInt x))) ⟨_, e1, q2, q3, t_set q4 hap hk _⟩ (fun j _ => ?_)⟩
  rw [vp_updV_set (by rw [List.length_mapIdx]; exact (List.getElem?_eq_some_iff.mp g3).1)]
  rw [pm_fs_set g3 (τ := pm_up σ c 0 (k : Int) x) (congrArg (fun z => Value.int (Int32.ofInt z)) pm_up_eq) (fun j g hj => ?_)]
  cases g with
  | none =>
    show Value.int (Int32.ofInt _) = Value.int (Int32.ofInt _)
    rw [pm_up_ne (fun z => hj (by omega))]
  | some q =>
    show (if _ = (1 : Int) then _ else _) = (if _ = (1 : Int) then _ else _)
    rw [pm_up_ne (fun z => absurd z.2.1 (by omega))]
theorem pw_putR (C : pm_CX p R s m args meth c D Y b base n0 maxL E) : pm_R_putR E (pm_GC p l e R s m args below meth c Q D Y b base n0 maxL E) := by
  intro pc L st n σ idx c ci nf k q k0 k1 k2 k3 k4 h0 h1 hL ls H locs hs hw hl hW hS
  obtain ⟨hx, hb, hml, hown, hts, hK, hN, hbs, ⟨hf1, hf2, hf3, hf4, hf5⟩, hini, hsc⟩ := id C
  obtain ⟨g1, g2, g3, g4, g5⟩ := k2
  obtain ⟨r, hr, hk, hm⟩ := pm_FL_of g2
  have hl67 := pm_kd_lt g1 (by omega)
  have hk31 : k < 31 := Nat.lt_trans (List.getElem?_eq_some_iff.mp g3).1 (pm_fl31 c hl67)
  have ha := pm_at1 (Y := Y) (b := b) (base := base) (σ := σ) g1 (by omega) k3
  rw [pm_ce0 g1] at ha
  have e : pm_c b base (.inr (.inr (c, 0))) = .ref (base + pm_pos c) := congrArg Value.ref (pm_ad1 g1 (by omega) 0)
  simp only [List.map_cons, e]
  have htb : ∀ w ∈ u_ws r.1 r.2.1 r.2.2, w.before args s = true := fun w hw => hts w (pm_cl_get hr w hw).1 (pm_cl_get hr w hw).2
  have hap := va_apart (own := E.1) htb (fun w hw => hw) (pm_ty ci) (pm_ty_ok hr).1 (pm_ty_ok hr).2 hK hr
  obtain ⟨r9, h1r, cell, q1, q2, q3, q4⟩ := hW.2 _ _ ha
  have hr9 : r9 = r := Option.some.inj (h1r.symm.trans hr)
  subst hr9
  obtain ⟨hSl, hfc, kC, hkC, hkind⟩ := hK.1 ci _ hr
  obtain ⟨cf, kf, fi, f, hi, hsl⟩ := hSl k hk
  have hlay := htb _ (u_in_lay hk)
  unfold u_lay at hlay
  have hst := (u_facts hfc hkC (u_lays htb (fun w hw => hw) hk) hi).1
  have hfin : (r9.2.1 k).2.2.2 = true := by
    unfold pm_fin at g4
    rw [hr] at g4
    exact g4
  have hci : ci < 12 := (List.getElem?_eq_some_iff.mp hr).1
  have hdecl : (r9.2.1 k).1 = E.1 := by
    have hk30 : k < 30 := Nat.lt_of_lt_of_le (List.getElem?_eq_some_iff.mp g3).1 (Nat.le_of_lt_succ (pm_fl31 c hl67))
    have h5 := pm_dcl ci hci k hk30
    rw [List.getD_eq_getElem?_getD, hr] at h5
    unfold pm_cls at g5
    rw [hr] at g5
    exact h5.trans g5
  rw [if_pos hfin] at hlay
  have hcf : m.cls = cf := by
    obtain ⟨_, _, c', _, _, _, -, -, hf', -, -, -, hown2, -⟩ := Cond.laysFinal_spec hlay
    have e1 : c' = cf := by have := hi.symm.trans hf'; simp at this; exact this.1.symm
    rw [hdecl] at hown2
    rw [← e1]; exact Option.some.inj (hown.symm.trans hown2)
  have htyk : (pm_ty ci k).isReference = true := by
    have := pm_fr c hl67 k hk31 (by rw [g1]) (by rw [g3]; rfl)
    rw [g1] at this
    exact this
  obtain ⟨n1, n2⟩ := pm_refs _ htyk (pm_ad b base q.1 q.2)
  have h6 := u_fits hfc hkC hkind (Or.inr hlay) hi ((pm_ty_ok hr).1 k hk) n1 n2
  refine W.putFinK hx hb hown (hts _ hm rfl) hi hst hcf (hini k1) (by rw [q2]; exact h6) q1 q3 (by rw [hsl]; exact k2_hasslot (q4 k hk)) rfl rfl k0 fun H' e1 e2 e3 => ?_
  rw [hsl] at e1 ⊢
  refine k4 _ rfl h0 h1 hL ls H' _ hs hw hl (pm_wr1 g1 (by omega) hW e2 e3 ?_) (hS.put e2 e3 (by show base ≤ base + pm_pos c; omega))
  rw [pm_ce0 g1]
  refine ⟨_, hr, t_OB.to (V := updV (vp_V ((pm_fs c).mapIdx (pm_fd b base c σ))) k (.ref (pm_ad b base q.1 q.2))) ⟨_, e1, q2, q3, t_set q4 hap hk _⟩ (fun j _ => ?_)⟩
  rw [vp_updV_set (by rw [List.length_mapIdx]; exact (List.getElem?_eq_some_iff.mp g3).1)]
  rw [pm_fs_set g3 (τ := pm_up σ c 1 (k : Int) 1) (if_pos pm_up_eq) (fun j g hj => ?_)]
  cases g with
  | none =>
    show Value.int (Int32.ofInt _) = Value.int (Int32.ofInt _)
    rw [pm_up_ne (fun z => absurd z.2.1 (by omega))]
  | some q =>
    show (if _ = (1 : Int) then _ else _) = (if _ = (1 : Int) then _ else _)
    rw [pm_up_ne (fun z => hj (by omega))]
theorem pw_iald (C : pm_CX p R s m args meth c D Y b base n0 maxL E) : pm_R_iald E (pm_GC p l e R s m args below meth c Q D Y b base n0 maxL E) := by
  intro pc L st n σ c N i x k0 k1 k2 k3 k4 k5 h0 h1 hL ls H locs hs hw hl hW hS
  obtain ⟨hx, hb, hml, hown, hts, hK, hN, hbs, ⟨hf1, hf2, hf3, hf4, hf5⟩, hini, hsc⟩ := id C
  have hN : N < 2147483648 := Nat.lt_trans (by have := pm_kN c (pm_kd_lt k1 (by omega)); rw [k1] at this; exact this.1) (by omega : 100000 < 2147483648)
  have h2 := k5 h0 h1 hL ls H locs hs hw hl hW hS
  rw [← k4] at h2
  have ha := pm_at1 (Y := Y) (b := b) (base := base) (σ := σ) k1 (by omega) k2
  rw [pm_ce1 k1] at ha
  have e : pm_c b base (.inr (.inr (c, 0))) = .ref (base + pm_pos c) := congrArg Value.ref (pm_ad1 k1 (by omega) 0)
  simp only [List.map_cons, e]
  refine va_iald hx hb hK hW.2 _ 0 ha rfl (pm_vin k3 hN) k0 ?_
  show W _ _ _ _ _ _ _ _ _ _ _ _ _ _ _ (F0 _ _ _ (.int (Int32.ofInt (σ c 0 (((Int32.ofInt i).toNatClampNeg : Nat) : Int))) :: _))
  rw [pm_clamp k3 hN]
  exact h2
theorem pw_iald2 (C : pm_CX p R s m args meth c D Y b base n0 maxL E) : pm_R_iald2 E (pm_GC p l e R s m args below meth c Q D Y b base n0 maxL E) := by
  intro pc L st n σ c N M r i x k0 k1 k2 k3 k4 k5 k6 h0 h1 hL ls H locs hs hw hl hW hS
  obtain ⟨hx, hb, hml, hown, hts, hK, hN, hbs, ⟨hf1, hf2, hf3, hf4, hf5⟩, hini, hsc⟩ := id C
  have hN : N < 2147483648 := Nat.lt_trans (by have := pm_kN c (pm_kd_lt k1 (by omega)); rw [k1] at this; exact this.2) (by omega : 100000 < 2147483648)
  have h2 := k6 h0 h1 hL ls H locs hs hw hl hW hS
  rw [← k5] at h2
  have ha := pm_at2 (Y := Y) (b := b) (base := base) (σ := σ) k1 (by omega) (by omega) k4 k2
  rw [pm_ce4 k1 k4.1] at ha
  have e : pm_c b base (.inr (.inr (c, r))) = .ref (base + (pm_pos c + 1 + r.toNat)) := congrArg Value.ref (pm_ad2 k1 (by omega) (by omega) k4.1)
  simp only [List.map_cons, e]
  refine va_iald hx hb hK hW.2 _ 0 ha rfl (pm_vin k3 hN) k0 ?_
  show W _ _ _ _ _ _ _ _ _ _ _ _ _ _ _ (F0 _ _ _ (.int (Int32.ofInt (σ c r (((Int32.ofInt i).toNatClampNeg : Nat) : Int))) :: _))
  rw [pm_clamp k3 hN]
  exact h2
theorem pw_lald (C : pm_CX p R s m args meth c D Y b base n0 maxL E) : pm_R_lald E (pm_GC p l e R s m args below meth c Q D Y b base n0 maxL E) := by
  intro pc L st n σ c N i x k0 k1 k2 k3 k4 k5 h0 h1 hL ls H locs hs hw hl hW hS
  obtain ⟨hx, hb, hml, hown, hts, hK, hN, hbs, ⟨hf1, hf2, hf3, hf4, hf5⟩, hini, hsc⟩ := id C
  have hN : N < 2147483648 := Nat.lt_trans (by have := pm_kN c (pm_kd_lt k1 (by omega)); rw [k1] at this; exact this.1) (by omega : 100000 < 2147483648)
  have h2 := k5 h0 h1 hL ls H locs hs hw hl hW hS
  rw [← k4] at h2
  have ha := pm_at1 (Y := Y) (b := b) (base := base) (σ := σ) k1 (by omega) k2
  rw [pm_ce2 k1] at ha
  have e : pm_c b base (.inr (.inr (c, 0))) = .ref (base + pm_pos c) := congrArg Value.ref (pm_ad1 k1 (by omega) 0)
  simp only [List.map_cons, e]
  refine va_lald hx hb hK hW.2 _ 1 ha rfl (pm_vin k3 hN) k0 ?_
  show W _ _ _ _ _ _ _ _ _ _ _ _ _ _ _ (F0 _ _ _ (.long (Int64.ofInt (σ c 0 (((Int32.ofInt i).toNatClampNeg : Nat) : Int))) :: _))
  rw [pm_clamp k3 hN]
  exact h2
theorem pw_lald2 (C : pm_CX p R s m args meth c D Y b base n0 maxL E) : pm_R_lald2 E (pm_GC p l e R s m args below meth c Q D Y b base n0 maxL E) := by
  intro pc L st n σ c N M r i x k0 k1 k2 k3 k4 k5 k6 h0 h1 hL ls H locs hs hw hl hW hS
  obtain ⟨hx, hb, hml, hown, hts, hK, hN, hbs, ⟨hf1, hf2, hf3, hf4, hf5⟩, hini, hsc⟩ := id C
  have hN : N < 2147483648 := Nat.lt_trans (by have := pm_kN c (pm_kd_lt k1 (by omega)); rw [k1] at this; exact this.2) (by omega : 100000 < 2147483648)
  have h2 := k6 h0 h1 hL ls H locs hs hw hl hW hS
  rw [← k5] at h2
  have ha := pm_at2 (Y := Y) (b := b) (base := base) (σ := σ) k1 (by omega) (by omega) k4 k2
  rw [pm_ce5 k1 k4.1] at ha
  have e : pm_c b base (.inr (.inr (c, r))) = .ref (base + (pm_pos c + 1 + r.toNat)) := congrArg Value.ref (pm_ad2 k1 (by omega) (by omega) k4.1)
  simp only [List.map_cons, e]
  refine va_lald hx hb hK hW.2 _ 1 ha rfl (pm_vin k3 hN) k0 ?_
  show W _ _ _ _ _ _ _ _ _ _ _ _ _ _ _ (F0 _ _ _ (.long (Int64.ofInt (σ c r (((Int32.ofInt i).toNatClampNeg : Nat) : Int))) :: _))
  rw [pm_clamp k3 hN]
  exact h2
theorem pw_zald (C : pm_CX p R s m args meth c D Y b base n0 maxL E) : pm_R_zald E (pm_GC p l e R s m args below meth c Q D Y b base n0 maxL E) := by
  intro pc L st n σ c N i x k0 k1 k2 k3 k4 k5 h0 h1 hL ls H locs hs hw hl hW hS
  obtain ⟨hx, hb, hml, hown, hts, hK, hN, hbs, ⟨hf1, hf2, hf3, hf4, hf5⟩, hini, hsc⟩ := id C
  have hN : N < 2147483648 := Nat.lt_trans (by have := pm_kN c (pm_kd_lt k1 (by omega)); rw [k1] at this; exact this.1) (by omega : 100000 < 2147483648)
  have h2 := k5 h0 h1 hL ls H locs hs hw hl hW hS
  rw [← k4] at h2
  have ha := pm_at1 (Y := Y) (b := b) (base := base) (σ := σ) k1 (by omega) k2
  rw [pm_ce3 k1] at ha
  have e : pm_c b base (.inr (.inr (c, 0))) = .ref (base + pm_pos c) := congrArg Value.ref (pm_ad1 k1 (by omega) 0)
  simp only [List.map_cons, e]
  refine va_zald hx hb hK hW.2 _ 2 ha rfl (pm_vin k3 hN) k0 ?_
  show W _ _ _ _ _ _ _ _ _ _ _ _ _ _ _ (F0 _ _ _ (.int (Int32.ofInt (σ c 0 (((Int32.ofInt i).toNatClampNeg : Nat) : Int))) :: _))
  rw [pm_clamp k3 hN]
  exact h2
theorem pw_iast (C : pm_CX p R s m args meth c D Y b base n0 maxL E) : pm_R_iast E (pm_GC p l e R s m args below meth c Q D Y b base n0 maxL E) := by
  intro pc L st n σ c N i x k0 k1 k2 k3 k4 h0 h1 hL ls H locs hs hw hl hW hS
  obtain ⟨hx, hb, hml, hown, hts, hK, hN, hbs, ⟨hf1, hf2, hf3, hf4, hf5⟩, hini, hsc⟩ := id C
  have hN : N < 2147483648 := Nat.lt_trans (by have := pm_kN c (pm_kd_lt k1 (by omega)); rw [k1] at this; exact this.1) (by omega : 100000 < 2147483648)
  have ha := pm_at1 (Y := Y) (b := b) (base := base) (σ := σ) k1 (by omega) k2
  rw [pm_ce1 k1] at ha
  have e : pm_c b base (.inr (.inr (c, 0))) = .ref (base + pm_pos c) := congrArg Value.ref (pm_ad1 k1 (by omega) 0)
  simp only [List.map_cons, e]
  refine W.iast hx hb (hW.2 _ _ ha) ((hK.2 0 _ rfl).1 N (fun j => .int (pm_fi σ c 0 j))) (fun q => by cases q) (by show ¬ (Int32.ofInt i < 0 ∨ (arrV _ _ _).slots.size ≤ _); rw [arrV_size]; exact pm_vin k3 hN) rfl rfl k0 fun H1 e1 z oq => ?_
  refine k4 _ rfl h0 h1 hL ls H1 _ hs hw hl (pm_wr1 k1 (by omega) hW z oq ?_) (hS.put z oq (by show base ≤ base + _; omega))
  rw [pm_ce1 k1]
  show H1[_]? = some (vp_cell _ _)
  rw [e1, vp_cell_i, vp_cell_i, arrV_store]
  exact congrArg (fun z => some (arrV _ _ z)) (pm_fi_up (pm_clamp k3 hN) Value.int)
theorem pw_iast2 (C : pm_CX p R s m args meth c D Y b base n0 maxL E) : pm_R_iast2 E (pm_GC p l e R s m args below meth c Q D Y b base n0 maxL E) := by
  intro pc L st n σ c N M r i x k0 k1 k2 k3 k4 k5 h0 h1 hL ls H locs hs hw hl hW hS
  obtain ⟨hx, hb, hml, hown, hts, hK, hN, hbs, ⟨hf1, hf2, hf3, hf4, hf5⟩, hini, hsc⟩ := id C
  have hN : N < 2147483648 := Nat.lt_trans (by have := pm_kN c (pm_kd_lt k1 (by omega)); rw [k1] at this; exact this.2) (by omega : 100000 < 2147483648)
  have ha := pm_at2 (Y := Y) (b := b) (base := base) (σ := σ) k1 (by omega) (by omega) k4 k2
  rw [pm_ce4 k1 k4.1] at ha
  have e : pm_c b base (.inr (.inr (c, r))) = .ref (base + (pm_pos c + 1 + r.toNat)) := congrArg Value.ref (pm_ad2 k1 (by omega) (by omega) k4.1)
  simp only [List.map_cons, e]
  refine W.iast hx hb (hW.2 _ _ ha) ((hK.2 0 _ rfl).1 N (fun j => .int (pm_fi σ c r j))) (fun q => by cases q) (by show ¬ (Int32.ofInt i < 0 ∨ (arrV _ _ _).slots.size ≤ _); rw [arrV_size]; exact pm_vin k3 hN) rfl rfl k0 fun H1 e1 z oq => ?_
  refine k5 _ rfl h0 h1 hL ls H1 _ hs hw hl (pm_wr2 k1 (by omega) (by omega) k4 hW z oq ?_) (hS.put z oq (by show base ≤ base + _; omega))
  rw [pm_ce4 k1 k4.1]
  show H1[_]? = some (vp_cell _ _)
  rw [e1, vp_cell_i, vp_cell_i, arrV_store]
  exact congrArg (fun z => some (arrV _ _ z)) (pm_fi_up (pm_clamp k3 hN) Value.int)
theorem pw_last (C : pm_CX p R s m args meth c D Y b base n0 maxL E) : pm_R_last E (pm_GC p l e R s m args below meth c Q D Y b base n0 maxL E) := by
  intro pc L st n σ c N i x k0 k1 k2 k3 k4 h0 h1 hL ls H locs hs hw hl hW hS
  obtain ⟨hx, hb, hml, hown, hts, hK, hN, hbs, ⟨hf1, hf2, hf3, hf4, hf5⟩, hini, hsc⟩ := id C
  have hN : N < 2147483648 := Nat.lt_trans (by have := pm_kN c (pm_kd_lt k1 (by omega)); rw [k1] at this; exact this.1) (by omega : 100000 < 2147483648)
  have ha := pm_at1 (Y := Y) (b := b) (base := base) (σ := σ) k1 (by omega) k2
  rw [pm_ce2 k1] at ha
  have e : pm_c b base (.inr (.inr (c, 0))) = .ref (base + pm_pos c) := congrArg Value.ref (pm_ad1 k1 (by omega) 0)
  simp only [List.map_cons, e]
  refine W.last hx hb (hW.2 _ _ ha) ((hK.2 1 _ rfl).1 N (fun j => .long (pm_fj σ c 0 j))) (fun q => by cases q) (by show ¬ (Int32.ofInt i < 0 ∨ (arrV _ _ _).slots.size ≤ _); rw [arrV_size]; exact pm_vin k3 hN) rfl rfl k0 fun H1 e1 z oq => ?_
  refine k4 _ rfl h0 h1 hL ls H1 _ hs hw hl (pm_wr1 k1 (by omega) hW z oq ?_) (hS.put z oq (by show base ≤ base + _; omega))
  rw [pm_ce2 k1]
  show H1[_]? = some (vp_cell _ _)
  rw [e1, vp_cell_l, vp_cell_l, arrV_store]
  exact congrArg (fun z => some (arrV _ _ z)) (pm_fj_up (pm_clamp k3 hN) Value.long)
theorem pw_last2 (C : pm_CX p R s m args meth c D Y b base n0 maxL E) : pm_R_last2 E (pm_GC p l e R s m args below meth c Q D Y b base n0 maxL E) := by
  intro pc L st n σ c N M r i x k0 k1 k2 k3 k4 k5 h0 h1 hL ls H locs hs hw hl hW hS
  obtain ⟨hx, hb, hml, hown, hts, hK, hN, hbs, ⟨hf1, hf2, hf3, hf4, hf5⟩, hini, hsc⟩ := id C
  have hN : N < 2147483648 := Nat.lt_trans (by have := pm_kN c (pm_kd_lt k1 (by omega)); rw [k1] at this; exact this.2) (by omega : 100000 < 2147483648)
  have ha := pm_at2 (Y := Y) (b := b) (base := base) (σ := σ) k1 (by omega) (by omega) k4 k2
  rw [pm_ce5 k1 k4.1] at ha
  have e : pm_c b base (.inr (.inr (c, r))) = .ref (base + (pm_pos c + 1 + r.toNat)) := congrArg Value.ref (pm_ad2 k1 (by omega) (by omega) k4.1)
  simp only [List.map_cons, e]
  refine W.last hx hb (hW.2 _ _ ha) ((hK.2 1 _ rfl).1 N (fun j => .long (pm_fj σ c r j))) (fun q => by cases q) (by show ¬ (Int32.ofInt i < 0 ∨ (arrV _ _ _).slots.size ≤ _); rw [arrV_size]; exact pm_vin k3 hN) rfl rfl k0 fun H1 e1 z oq => ?_
  refine k5 _ rfl h0 h1 hL ls H1 _ hs hw hl (pm_wr2 k1 (by omega) (by omega) k4 hW z oq ?_) (hS.put z oq (by show base ≤ base + _; omega))
  rw [pm_ce5 k1 k4.1]
  show H1[_]? = some (vp_cell _ _)
  rw [e1, vp_cell_l, vp_cell_l, arrV_store]
  exact congrArg (fun z => some (arrV _ _ z)) (pm_fj_up (pm_clamp k3 hN) Value.long)
theorem pw_zast (C : pm_CX p R s m args meth c D Y b base n0 maxL E) : pm_R_zast E (pm_GC p l e R s m args below meth c Q D Y b base n0 maxL E) := by
  intro pc L st n σ c N i x k0 k1 k2 k3 k4 k5 h0 h1 hL ls H locs hs hw hl hW hS
  obtain ⟨hx, hb, hml, hown, hts, hK, hN, hbs, ⟨hf1, hf2, hf3, hf4, hf5⟩, hini, hsc⟩ := id C
  have hN : N < 2147483648 := Nat.lt_trans (by have := pm_kN c (pm_kd_lt k1 (by omega)); rw [k1] at this; exact this.1) (by omega : 100000 < 2147483648)
  have ha := pm_at1 (Y := Y) (b := b) (base := base) (σ := σ) k1 (by omega) k2
  rw [pm_ce3 k1] at ha
  have e : pm_c b base (.inr (.inr (c, 0))) = .ref (base + pm_pos c) := congrArg Value.ref (pm_ad1 k1 (by omega) 0)
  simp only [List.map_cons, e]
  have hnar : narrow .boolean (.int (Int32.ofInt x)) = .int (Int32.ofInt x) := by rcases k4 with rfl | rfl <;> rfl
  refine W.zast hx hb (hW.2 _ _ ha) ((hK.2 2 _ rfl).1 N (fun j => .int (pm_fi σ c 0 j))) (fun q => by cases q) (by show ¬ (Int32.ofInt i < 0 ∨ (arrV _ _ _).slots.size ≤ _); rw [arrV_size]; exact pm_vin k3 hN) rfl rfl k0 fun H1 e1 z oq => ?_
  refine k5 _ rfl h0 h1 hL ls H1 _ hs hw hl (pm_wr1 k1 (by omega) hW z oq ?_) (hS.put z oq (by show base ≤ base + _; omega))
  rw [pm_ce3 k1]
  show H1[_]? = some (vp_cell _ _)
  rw [e1, hnar, vp_cell_i, vp_cell_i, arrV_store]
  exact congrArg (fun z => some (arrV _ _ z)) (pm_fi_up (pm_clamp k3 hN) Value.int)
theorem pw_aald (C : pm_CX p R s m args meth c D Y b base n0 maxL E) : pm_R_aald E (pm_GC p l e R s m args below meth c Q D Y b base n0 maxL E) := by
  intro pc L st n σ c N M t i k0 k1 k2 k3 k4 h0 h1 hL ls H locs hs hw hl hW hS
  obtain ⟨hx, hb, hml, hown, hts, hK, hN, hbs, ⟨hf1, hf2, hf3, hf4, hf5⟩, hini, hsc⟩ := id C
  obtain ⟨g1, g2⟩ := k1
  have ht : 4 ≤ t := by omega
  have ht2 : t < 9 := by omega
  have hN : N < 2147483648 := Nat.lt_trans (by have := pm_kN c (pm_kd_lt g1 ht2); rw [g1] at this; exact this.1) (by omega : 100000 < 2147483648)
  have h2 := k4 h0 h1 hL ls H locs hs hw hl hW hS
  have ha := pm_at2o (Y := Y) (b := b) (base := base) (σ := σ) g1 ht ht2 (show pm_pos c < n by omega)
  have e : pm_c b base (.inr (.inr (c, -1))) = .ref (base + pm_pos c) := congrArg Value.ref (pm_ad2o g1 ht ht2)
  simp only [List.map_cons, e]
  have hv : ∀ cA : ClassId, (arrV cA N (fun j => va_rf (pm_fq b base c N j))).slots[(Int32.ofInt i).toNatClampNeg]? = some (pm_c b base (.inr (.inr (c, i)))) := fun cA => by
    have hcl := pm_clamp k3 hN
    rw [arrV_read _ _ (by omega)]
    unfold pm_fq
    rw [if_pos (by omega), hcl]
    rfl
  rcases g2 with g2 | g2
  · subst g2
    rw [pm_ce4o g1] at ha
    exact W.aald (ty := .array .int) hx hb (hW.2 _ _ ha) ((hK.2 3 _ rfl).1 N (fun j => va_rf (pm_fq b base c N j))) rfl (fun q => by cases q) (by show ¬ (Int32.ofInt i < 0 ∨ (arrV _ _ _).slots.size ≤ _); rw [arrV_size]; exact pm_vin k3 hN) (hv _) rfl rfl k0 h2
  · subst g2
    rw [pm_ce5o g1] at ha
    exact W.aald (ty := .array .long) hx hb (hW.2 _ _ ha) ((hK.2 4 _ rfl).1 N (fun j => va_rf (pm_fq b base c N j))) rfl (fun q => by cases q) (by show ¬ (Int32.ofInt i < 0 ∨ (arrV _ _ _).slots.size ≤ _); rw [arrV_size]; exact pm_vin k3 hN) (hv _) rfl rfl k0 h2
theorem pw_alen (C : pm_CX p R s m args meth c D Y b base n0 maxL E) : pm_R_alen E (pm_GC p l e R s m args below meth c Q D Y b base n0 maxL E) := by
  intro pc L st n σ c N k0 k1 k2 k3 h0 h1 hL ls H locs hs hw hl hW hS
  obtain ⟨hx, hb, hml, hown, hts, hK, hN, hbs, ⟨hf1, hf2, hf3, hf4, hf5⟩, hini, hsc⟩ := id C
  have h2 := k3 h0 h1 hL ls H locs hs hw hl hW hS
  have ha := pm_at1 (Y := Y) (b := b) (base := base) (σ := σ) k1 (by omega) k2
  rw [pm_ce1 k1] at ha
  have e : pm_c b base (.inr (.inr (c, 0))) = .ref (base + pm_pos c) := congrArg Value.ref (pm_ad1 k1 (by omega) 0)
  simp only [List.map_cons, e]
  exact va_alen hx hb hK hW.2 _ 0 ha rfl (by show Int32.ofNat N = Int32.ofInt (N : Int); rw [← Int32.ofInt_eq_ofNat]) k0 h2
theorem pw_sld (C : pm_CX p R s m args meth c D Y b base n0 maxL E) : pm_R_sld E (pm_GC p l e R s m args below meth c Q D Y b base n0 maxL E) := by
  intro pc L st n σ i k0 k1 k2 h0 h1 hL ls H locs hs hw hl hW hS
  obtain ⟨hx, hb, hml, hown, hts, hK, hN, hbs, ⟨hf1, hf2, hf3, hf4, hf5⟩, hini, hsc⟩ := id C
  rcases hsc with q | ⟨g1, g2, g3, g4, g5⟩
  · omega
  · have h2 := k2 h0 h1 hL ls H locs hs hw hl hW hS
    refine va_sld hx hb g3 g5 g4 hS (pm_vin (N := E.2.2.2.2.1.toNat) ⟨k1.1, by omega⟩ (by omega)) k0 ?_
    rw [pm_clamp (N := E.2.2.2.2.1.toNat) ⟨k1.1, by omega⟩ (by omega)]
    exact h2
theorem pw_slen (C : pm_CX p R s m args meth c D Y b base n0 maxL E) : pm_R_slen E (pm_GC p l e R s m args below meth c Q D Y b base n0 maxL E) := by
  intro pc L st n σ  k0 k1 k2 h0 h1 hL ls H locs hs hw hl hW hS
  obtain ⟨hx, hb, hml, hown, hts, hK, hN, hbs, ⟨hf1, hf2, hf3, hf4, hf5⟩, hini, hsc⟩ := id C
  rcases hsc with q | ⟨g1, g2, g3, g4, g5⟩
  · omega
  · have h2 := k2 h0 h1 hL ls H locs hs hw hl hW hS
    refine va_slen hx hb g3 g5 g4 hS k0 ?_
    have e : Int32.ofNat E.2.2.2.2.1.toNat = Int32.ofInt E.2.2.2.2.1 := by
      rw [← Int32.ofInt_eq_ofNat]
      congr 1
      omega
    rw [e]
    exact h2
end PW2
