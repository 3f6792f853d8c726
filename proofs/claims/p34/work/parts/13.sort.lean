/-! ===== sortWishes, Pairs ===== -/
theorem pm_Rng_acp {σ τ : pm_H} {c0 c1 N : Nat} (hR : pm_Rng σ) (hok : ∀ i x : Int, pm_ok c0 0 i x → pm_ok c1 0 i x) (a : ∀ (c : Nat) (r i : Int), c ≠ c1 → τ c r i = σ c r i) (b : ∀ i : Int, 0 ≤ i → i < (N : Int) → τ c1 0 i = σ c0 0 i) (c : ∀ i : Int, i < 0 ∨ (N : Int) ≤ i → τ c1 0 i = σ c1 0 i) (d : ∀ r i : Int, r ≠ 0 → τ c1 r i = σ c1 r i) : pm_Rng τ := fun k r i => by
  by_cases q : k = c1
  · subst q
    by_cases z : r = 0
    · subst z
      by_cases y : 0 ≤ i ∧ i < (N : Int)
      · rw [b i y.1 y.2]
        exact hok i _ (hR c0 0 i)
      · rw [c i (by omega)]
        exact hR k 0 i
    · rw [d r i z]
      exact hR k r i
  · rw [a k r i q]
    exact hR k r i
theorem pm_Fr_acp {σ0 σ τ : pm_H} {c1 : Nat} {M : List (Nat × Option Int)} (hF : pm_Fr M σ0 σ) (hM : ∀ i : Int, pm_inM M c1 i = true) (a : ∀ (c : Nat) (r i : Int), c ≠ c1 → τ c r i = σ c r i) : pm_Fr M σ0 τ := fun k r i h => by
  have q : k ≠ c1 := fun z => by subst z; rw [hM i] at h; cases h
  rw [a k r i q]
  exact hF k r i h
theorem pm_ostep {s s' : pm_H} {c : Nat} {v : Int} (h : ∀ i : Int, 1 ≤ i → i < v → s c 0 i = 1) (e : s' = pm_up s c 0 v 1) : ∀ i : Int, 1 ≤ i → i < v + 1 → s' c 0 i = 1 := fun i h0 h1 => by
  by_cases q : i = v
  · subst q
    exact pm_at e
  · rw [pm_nei e q]
    exact h i h0 (by omega)
theorem pm_wrapL_in (x : Int) : pm_inl (pm_wrapL x) := ⟨Int64.le_toInt _, Int64.toInt_le _⟩
theorem pm_wrapL_id {x : Int} (h : pm_inl x) : pm_wrapL x = x := Int64.toInt_ofInt_of_le h.1 (by have := h.2; omega)
def pre_X5_sortWishes (as : List pm_V) (n : Nat) (σ : pm_H) : Prop := as = [.inr (.inr (3, 0))] ∧ n = 122 ∧ pm_Rng σ
def po_X5_sortWishes (as : List pm_V) (_ : Nat) (σ : pm_H) (r : Option pm_V) (τ : pm_H) : Prop := as = [.inr (.inr (3, 0))] → ∃ v : Int, r = some (.inl v) ∧ pm_Rng τ ∧ pm_Fr [(4, none), (8, none)] σ τ ∧ (0 ≤ v ∧ v ≤ 10)
set_option maxRecDepth 20000 in
set_option maxHeartbeats 4000000 in
theorem ct_X5_sortWishes : pm_Ct yX5_sortWishes cX5_sortWishes 4 (some .int) 1 0 pre_X5_sortWishes po_X5_sortWishes := pm_sound (ini := false) (by decide +kernel) pk_X5_sortWishes (fun h => absurd h (by decide)) (by
  rintro as n s0 ⟨rfl, rfl, R0⟩
  refine ⟨by decide, Nat.le_of_ble_eq_true rfl, fun G hG => ?_⟩
  have hG : pm_Rules (RX5, 1, 122, cX5_sortWishes, -1, (fun _ => 0), false, (some .int), po_X5_sortWishes [.inr (.inr (3, 0))] 122 s0) G := hG
  show G 0 [some (.inr (.inr (3, 0))), none, none, none] [] 122 s0
  refine px_aload_n hG dX5_sortWishes_0 rfl ?_
  refine gr_3_5 hG dX5_sortWishes_1 fl_X5_27 R0 ?_
  refine px_iconst hG dX5_sortWishes_4 ?_
  refine px_aload_n hG dX5_sortWishes_5 rfl ?_
  refine gr_3_9 hG dX5_sortWishes_6 fl_X5_40 R0 ?_
  refine px_iconst hG dX5_sortWishes_9 ?_
  refine px_aload_n hG dX5_sortWishes_10 rfl ?_
  refine gr_3_5 hG dX5_sortWishes_11 fl_X5_27 R0 ?_
  refine px_alen hG dX5_sortWishes_14 (c := 4) rfl (by decide) ?_
  show G 15 [some (.inr (.inr (3, 0))), none, none, none] [.inl 11, .inl 0, .inr (.inr (8, 0)), .inl 0, .inr (.inr (4, 0))] 122 s0
  refine px_acp hG dX5_sortWishes_15 lc_X5_86 (Nat.le_of_ble_eq_true rfl) (Nat.le_of_ble_eq_true rfl) (N := 11) ⟨rfl, rfl⟩ (by decide) (fun s1 cas1 cbs1 ccs1 cds1 => ?_)
  have Rs1 := pm_Rng_acp (c0 := 4) (c1 := 8) R0 (fun _ _ z => z) cas1 cbs1 ccs1 cds1
  have Fs1 := pm_Fr_acp (M := [(4, none), (8, none)]) (c1 := 8) pm_Fr_rf (fun _ => rfl) cas1
  show G 18 [some (.inr (.inr (3, 0))), none, none, none] [] 122 s1
  obtain ⟨f8, hf8⟩ : ∃ f : Int → Int, ∀ i : Int, s1 8 0 i = f i := ⟨_, fun _ => rfl⟩
  refine px_iconst hG dX5_sortWishes_18 ?_
  refine px_istore_n hG dX5_sortWishes_19 (Nat.le_of_ble_eq_true rfl) (L2 := [some (.inr (.inr (3, 0))), some (.inl 0), none, none]) rfl ?_
  refine px_iconst hG dX5_sortWishes_20 ?_
  refine px_istore_n hG dX5_sortWishes_21 (Nat.le_of_ble_eq_true rfl) (L2 := [some (.inr (.inr (3, 0))), some (.inl 0), some (.inl 1), none]) rfl ?_
  have L22 : ∀ (N : Nat) (v1_2 : Int) (v2_3 : Int) (s4 : pm_H), pm_Rng s4 → pm_Fr [(4, none), (8, none)] s0 s4 → ((0 ≤ v1_2 ∧ v1_2 ≤ 10000) ∧ (1 ≤ v2_3 ∧ v2_3 ≤ 10000) ∧ (v1_2 ≤ pm_sc f8 v2_3 1 (s0 3 0 3).toNat ∧ (∀ i : Int, s4 8 0 i = f8 i))) → (10001 - v2_3).toNat < N → G 22 [some (.inr (.inr (3, 0))), some (.inl v1_2), some (.inl v2_3), none] [] 122 s4 := by
    intro N
    induction N with
    | zero => intro v1_2 v2_3 s4 R5 F6 inv8 hm9; exact absurd hm9 (Nat.not_lt_zero _)
    | succ N ih7 =>
      intro v1_2 v2_3 s4 R5 F6 inv8 hm9
      have W := inv8.2.2
      refine px_iload_n hG dX5_sortWishes_22 rfl ?_
      refine px_aload_n hG dX5_sortWishes_23 rfl ?_
      refine gi_3_1 hG dX5_sortWishes_24 fl_X5_15 R5 (fun x10 ex10 lx10 ux10 => ?_)
      have ex10 : s0 3 0 1 = x10 := (F6 3 0 1 rfl).symm.trans ex10
      have J72_12 : ((v2_3 > x10)) → G 72 [some (.inr (.inr (3, 0))), none, none, none] [] 122 s4 := by
        intro inv13
        refine px_iconst hG dX5_sortWishes_72 ?_
        refine px_istore_n hG dX5_sortWishes_73 (Nat.le_of_ble_eq_true rfl) (L2 := [some (.inr (.inr (3, 0))), none, some (.inl 0), none]) rfl ?_
        refine px_iconst hG dX5_sortWishes_74 ?_
        refine px_istore_n hG dX5_sortWishes_75 (Nat.le_of_ble_eq_true rfl) (L2 := [some (.inr (.inr (3, 0))), none, some (.inl 0), some (.inl 1)]) rfl ?_
        have L76 : ∀ (N : Nat) (v2_14 : Int) (v3_15 : Int), ((0 ≤ v2_14 ∧ v2_14 ≤ 10000) ∧ (1 ≤ v3_15 ∧ v3_15 ≤ 10000) ∧ (v2_14 ≤ v3_15 - 1 ∧ v3_15 ≤ 11)) → (10001 - v3_15).toNat < N → G 76 [some (.inr (.inr (3, 0))), none, some (.inl v2_14), some (.inl v3_15)] [] 122 s4 := by
          intro N
          induction N with
          | zero => intro v2_14 v3_15 inv17 hm18; exact absurd hm18 (Nat.not_lt_zero _)
          | succ N ih16 =>
            intro v2_14 v3_15 inv17 hm18
            refine px_iload_n hG dX5_sortWishes_76 rfl ?_
            refine px_aload_n hG dX5_sortWishes_77 rfl ?_
            refine gi_3_3 hG dX5_sortWishes_78 fl_X5_21 R5 (fun x19 ex19 lx19 ux19 => ?_)
            have ex19 : s0 3 0 3 = x19 := (F6 3 0 3 rfl).symm.trans ex19
            refine px_ic_gt hG dX5_sortWishes_81 (tgt := 108) (by decide) ⟨by omega, by omega⟩ ⟨by omega, by omega⟩ (fun c20 => ?_) (fun c20 => ?_)
            · refine px_iload_n hG dX5_sortWishes_108 rfl ?_
              exact px_iret (st := []) hG dX5_sortWishes_109 rfl rfl (fun _ => by exact ⟨_, rfl, R5, F6, by omega⟩)
            · refine px_aload_n hG dX5_sortWishes_84 rfl ?_
              refine gr_3_5 hG dX5_sortWishes_85 fl_X5_27 R5 ?_
              refine px_iload_n hG dX5_sortWishes_88 rfl ?_
              refine al_4 hG dX5_sortWishes_89 R5 (by omega) (fun x21 ex21 lx21 ux21 => ?_)
              refine px_aload_n hG dX5_sortWishes_90 rfl ?_
              refine gr_3_9 hG dX5_sortWishes_91 fl_X5_40 R5 ?_
              refine px_iload_n hG dX5_sortWishes_94 rfl ?_
              refine al_8 hG dX5_sortWishes_95 R5 (by omega) (fun x22 ex22 lx22 ux22 => ?_)
              refine px_ic_eq hG dX5_sortWishes_96 (tgt := 102) (by decide) ⟨by omega, by omega⟩ ⟨by omega, by omega⟩ (fun c23 => ?_) (fun c23 => ?_)
              · refine px_iinc hG dX5_sortWishes_102 (Nat.le_of_ble_eq_true rfl) rfl (L2 := [some (.inr (.inr (3, 0))), none, some (.inl v2_14), some (.inl (v3_15 + 1))]) rfl ?_
                refine px_goto hG dX5_sortWishes_105 (tgt := 76) (by decide) ?_
                exact ih16 v2_14 (v3_15 + 1) (⟨by omega, by omega, by omega⟩) (by omega)
              · refine px_iinc hG dX5_sortWishes_99 (Nat.le_of_ble_eq_true rfl) rfl (L2 := [some (.inr (.inr (3, 0))), none, some (.inl (v2_14 + 1)), some (.inl v3_15)]) rfl ?_
                refine px_iinc hG dX5_sortWishes_102 (Nat.le_of_ble_eq_true rfl) rfl (L2 := [some (.inr (.inr (3, 0))), none, some (.inl (v2_14 + 1)), some (.inl (v3_15 + 1))]) rfl ?_
                refine px_goto hG dX5_sortWishes_105 (tgt := 76) (by decide) ?_
                exact ih16 (v2_14 + 1) (v3_15 + 1) (⟨by omega, by omega, by omega⟩) (by omega)
        exact L76 _ 0 1 (⟨by omega, by omega, by omega⟩) (Nat.lt_succ_self _)
      refine px_ic_gt hG dX5_sortWishes_27 (tgt := 72) (by decide) ⟨by omega, by omega⟩ ⟨by omega, by omega⟩ (fun c11 => ?_) (fun c11 => ?_)
      · refine px_weak hG (L2 := [some (.inr (.inr (3, 0))), none, none, none]) ⟨Or.inr rfl, Or.inl rfl, Or.inl rfl, Or.inr rfl, trivial⟩ ?_
        exact J72_12  (by omega)
      · refine px_iconst hG dX5_sortWishes_30 ?_
        refine px_istore_n hG dX5_sortWishes_31 (Nat.le_of_ble_eq_true rfl) (L2 := [some (.inr (.inr (3, 0))), some (.inl v1_2), some (.inl v2_3), some (.inl 1)]) rfl ?_
        have L32 : ∀ (N : Nat) (v1_24 : Int) (v3_25 : Int) (s26 : pm_H), pm_Rng s26 → pm_Fr [(4, none), (8, none)] s0 s26 → ((v1_2 ≤ v1_24 ∧ v1_24 ≤ 10000) ∧ (1 ≤ v3_25 ∧ v3_25 ≤ 10000) ∧ (v1_24 ≤ pm_sc f8 v2_3 v3_25 (s0 3 0 3).toNat ∧ (∀ i : Int, s26 8 0 i = f8 i))) → (10001 - v3_25).toNat < N → G 32 [some (.inr (.inr (3, 0))), some (.inl v1_24), some (.inl v2_3), some (.inl v3_25)] [] 122 s26 := by
          intro N
          induction N with
          | zero => intro v1_24 v3_25 s26 R27 F28 inv30 hm31; exact absurd hm31 (Nat.not_lt_zero _)
          | succ N ih29 =>
            intro v1_24 v3_25 s26 R27 F28 inv30 hm31
            have U := inv30.2.2
            have U1 := U.1
            have UB := pm_sc_le f8 v2_3 v3_25 (s0 3 0 3).toNat
            refine px_iload_n hG dX5_sortWishes_32 rfl ?_
            refine px_aload_n hG dX5_sortWishes_33 rfl ?_
            refine gi_3_3 hG dX5_sortWishes_34 fl_X5_21 R27 (fun x32 ex32 lx32 ux32 => ?_)
            have ex32 : s0 3 0 3 = x32 := (F28 3 0 3 rfl).symm.trans ex32
            refine px_ic_gt hG dX5_sortWishes_37 (tgt := 66) (by decide) ⟨by omega, by omega⟩ ⟨by omega, by omega⟩ (fun c33 => ?_) (fun c33 => ?_)
            · have NX := pm_sc_nx (f := f8) (v := v2_3) (c := v3_25) (k := (s0 3 0 3).toNat) (by omega)
              refine px_iinc hG dX5_sortWishes_66 (Nat.le_of_ble_eq_true rfl) rfl (L2 := [some (.inr (.inr (3, 0))), some (.inl v1_24), some (.inl (v2_3 + 1)), some (.inl v3_25)]) rfl ?_
              refine px_goto hG dX5_sortWishes_69 (tgt := 22) (by decide) ?_
              refine px_weak hG (L2 := [some (.inr (.inr (3, 0))), some (.inl v1_24), some (.inl (v2_3 + 1)), none]) ⟨Or.inr rfl, Or.inr rfl, Or.inr rfl, Or.inl rfl, trivial⟩ ?_
              exact ih7 v1_24 (v2_3 + 1) s26 R27 F28 (⟨by omega, by omega, ⟨by omega, U.2⟩⟩) (by omega)
            · refine px_aload_n hG dX5_sortWishes_40 rfl ?_
              refine gr_3_9 hG dX5_sortWishes_41 fl_X5_40 R27 ?_
              refine px_iload_n hG dX5_sortWishes_44 rfl ?_
              refine al_8 hG dX5_sortWishes_45 R27 (by omega) (fun x34 ex34 lx34 ux34 => ?_)
              have X1 := (U.2 _).symm.trans ex34
              refine px_iload_n hG dX5_sortWishes_46 rfl ?_
              refine px_ic_ne hG dX5_sortWishes_47 (tgt := 60) (by decide) ⟨by omega, by omega⟩ ⟨by omega, by omega⟩ (fun c35 => ?_) (fun c35 => ?_)
              · refine px_iinc hG dX5_sortWishes_60 (Nat.le_of_ble_eq_true rfl) rfl (L2 := [some (.inr (.inr (3, 0))), some (.inl v1_24), some (.inl v2_3), some (.inl (v3_25 + 1))]) rfl ?_
                refine px_goto hG dX5_sortWishes_63 (tgt := 32) (by decide) ?_
                exact ih29 v1_24 (v3_25 + 1) s26 R27 F28 (⟨by omega, by omega, by first | exact ⟨by omega, fun i => (pm_nec E1 (by decide)).trans (U.2 i)⟩ | exact ⟨by rw [pm_sc_st (by omega)]; exact U1, U.2⟩⟩) (by omega)
              · have V := pm_sc_up (f := f8) (v := v2_3) (c := v3_25) (k := (s0 3 0 3).toNat) (by omega) (by omega) (by omega) (by omega)
                have VB := pm_sc_le f8 v2_3 (v3_25 + 1) (s0 3 0 3).toNat
                refine px_iinc hG dX5_sortWishes_50 (Nat.le_of_ble_eq_true rfl) rfl (L2 := [some (.inr (.inr (3, 0))), some (.inl (v1_24 + 1)), some (.inl v2_3), some (.inl v3_25)]) rfl ?_
                refine px_aload_n hG dX5_sortWishes_53 rfl ?_
                refine gr_3_5 hG dX5_sortWishes_54 fl_X5_27 R27 ?_
                refine px_iload_n hG dX5_sortWishes_57 rfl ?_
                refine px_iload_n hG dX5_sortWishes_58 rfl ?_
                refine as_4 hG dX5_sortWishes_59 R27 (by omega) (by omega) (fun s36 qs36 Rs36 => ?_)
                have Fs36 := pm_Fr_up (F28) qs36 (M := [(4, none), (8, none)]) rfl
                have E1 := qs36
                refine px_iinc hG dX5_sortWishes_60 (Nat.le_of_ble_eq_true rfl) rfl (L2 := [some (.inr (.inr (3, 0))), some (.inl (v1_24 + 1)), some (.inl v2_3), some (.inl (v3_25 + 1))]) rfl ?_
                refine px_goto hG dX5_sortWishes_63 (tgt := 32) (by decide) ?_
                exact ih29 (v1_24 + 1) (v3_25 + 1) s36 Rs36 Fs36 (⟨by omega, by omega, by first | exact ⟨by omega, fun i => (pm_nec E1 (by decide)).trans (U.2 i)⟩ | exact ⟨by rw [pm_sc_st (by omega)]; exact U1, U.2⟩⟩) (by omega)
        exact L32 _ v1_2 1 s4 R5 F6 (⟨by omega, by omega, W⟩) (Nat.lt_succ_self _)
  exact L22 _ 0 1 s1 Rs1 Fs1 (⟨by omega, by omega, ⟨pm_sc_nn _ _ _ _, hf8⟩⟩) (Nat.lt_succ_self _))
def pre_X3_element (as : List pm_V) (n : Nat) (σ : pm_H) : Prop := ∃ ar di : Int, as = [.inr (.inr (27, 0)), .inl ar, .inl di] ∧ n = 122 ∧ pm_Rng σ ∧ (0 ≤ ar ∧ ar ≤ 10 ∧ 0 ≤ di ∧ di ≤ 10)
def po_X3_element (as : List pm_V) (_ : Nat) (σ : pm_H) (r : Option pm_V) (τ : pm_H) : Prop := ∀ ar di : Int, as = [.inr (.inr (27, 0)), .inl ar, .inl di] → ∃ v : Int, r = some (.inl v) ∧ σ = τ ∧ (v = ar * 11 + di)
set_option maxRecDepth 20000 in
set_option maxHeartbeats 4000000 in
theorem ct_X3_element : pm_Ct yX3_element cX3_element 3 (some .int) 0 0 pre_X3_element po_X3_element := pm_sound (ini := false) (by decide +kernel) pk_X3_element (fun h => absurd h (by decide)) (by
  rintro as n s0 ⟨ar, di, rfl, rfl, R0, hpre⟩
  refine ⟨by decide, Nat.le_of_ble_eq_true rfl, fun G hG => ?_⟩
  have hG : pm_Rules (RX3, 0, 122, cX3_element, -1, (fun _ => 0), false, (some .int), po_X3_element [.inr (.inr (27, 0)), .inl ar, .inl di] 122 s0) G := hG
  show G 0 [some (.inr (.inr (27, 0))), some (.inl ar), some (.inl di)] [] 122 s0
  refine px_iload_n hG dX3_element_0 rfl ?_
  refine px_bipush hG dX3_element_1 (by decide) ?_
  refine px_imul hG dX3_element_3 ?_
  refine px_iload_n hG dX3_element_4 rfl ?_
  refine px_iadd hG dX3_element_5 ?_
  exact px_iret (st := []) hG dX3_element_6 rfl rfl (fun ar_1 di_1 ee => by cases ee; exact ⟨_, rfl, rfl, by omega⟩))
def pre_X3_rowsWith (as : List pm_V) (n : Nat) (σ : pm_H) : Prop := ∃ n1 ar di : Int, as = [.inr (.inr (27, 0)), .inl n1, .inl ar, .inl di] ∧ n = 122 ∧ pm_Rng σ ∧ (1 ≤ n1 ∧ n1 ≤ 5 ∧ 0 ≤ ar ∧ ar ≤ 10 ∧ 0 ≤ di ∧ di ≤ 10)
def po_X3_rowsWith (as : List pm_V) (_ : Nat) (σ : pm_H) (r : Option pm_V) (τ : pm_H) : Prop := ∀ n1 ar di : Int, as = [.inr (.inr (27, 0)), .inl n1, .inl ar, .inl di] → ∃ v : Int, r = some (.inl v) ∧ σ = τ
set_option maxRecDepth 20000 in
set_option maxHeartbeats 4000000 in
theorem ct_X3_rowsWith : pm_Ct yX3_rowsWith cX3_rowsWith 4 (some .int) 1 0 pre_X3_rowsWith po_X3_rowsWith := pm_sound (ini := false) (by decide +kernel) pk_X3_rowsWith (fun h => absurd h (by decide)) (by
  rintro as n s0 ⟨n1, ar, di, rfl, rfl, R0, hpre⟩
  refine ⟨by decide, Nat.le_of_ble_eq_true rfl, fun G hG => ?_⟩
  have hG : pm_Rules (RX3, 1, 122, cX3_rowsWith, -1, (fun _ => 0), false, (some .int), po_X3_rowsWith [.inr (.inr (27, 0)), .inl n1, .inl ar, .inl di] 122 s0) G := hG
  show G 0 [some (.inr (.inr (27, 0))), some (.inl n1), some (.inl ar), some (.inl di)] [] 122 s0
  refine px_aload_n hG dX3_rowsWith_0 rfl ?_
  refine gr_27_1 hG dX3_rowsWith_1 fl_X3_17 R0 ?_
  refine px_iload_n hG dX3_rowsWith_4 rfl ?_
  refine aa_29 hG dX3_rowsWith_5 (by omega) ?_
  refine px_aload_n hG dX3_rowsWith_6 rfl ?_
  refine px_iload_n hG dX3_rowsWith_7 rfl ?_
  refine px_iload_n hG dX3_rowsWith_8 rfl ?_
  refine jv2 hG dX3_rowsWith_9 ct_X3_element lk_X3_43 ⟨rfl, rfl⟩ (by decide) ⟨Nat.le_of_ble_eq_true rfl, Nat.le_of_ble_eq_true rfl, Nat.le_of_ble_eq_true rfl⟩ (Nat.le_of_ble_eq_true rfl) ⟨ar, di, rfl, rfl, R0, by omega⟩ (fun r1 t2 pr1 => ?_)
  obtain ⟨x3, rfl, rfl, br1⟩ := pr1 _ _ rfl
  show G 12 [some (.inr (.inr (27, 0))), some (.inl n1), some (.inl ar), some (.inl di)] [.inl x3, .inr (.inr (29, n1))] 122 s0
  refine al_29 hG dX3_rowsWith_12 R0 (by omega) (by omega) (fun x4 ex4 lx4 ux4 => ?_)
  exact px_iret (st := []) hG dX3_rowsWith_13 rfl rfl (fun n1_1 ar_1 di_1 ee => by cases ee; exact ⟨_, rfl, rfl⟩))
def pre_X3_fill (as : List pm_V) (n : Nat) (σ : pm_H) : Prop := ∃ n1 : Int, as = [.inr (.inr (27, 0)), .inl n1, .inr (.inr (11, 0)), .inr (.inr (24, 0))] ∧ n = 122 ∧ pm_Rng σ ∧ (1 ≤ n1 ∧ n1 ≤ 5)
def po_X3_fill (as : List pm_V) (_ : Nat) (σ : pm_H) (r : Option pm_V) (τ : pm_H) : Prop := ∀ n1 : Int, as = [.inr (.inr (27, 0)), .inl n1, .inr (.inr (11, 0)), .inr (.inr (24, 0))] → r = none ∧ pm_Rng τ ∧ pm_Fr [(28, none), (29, none), (30, none), (24, some 0), (25, none), (26, none)] σ τ
set_option maxRecDepth 20000 in
set_option maxHeartbeats 4000000 in
theorem ct_X3_fill : pm_Ct yX3_fill cX3_fill 6 none 2 0 pre_X3_fill po_X3_fill := pm_sound (ini := false) (by decide +kernel) pk_X3_fill (fun h => absurd h (by decide)) (by
  rintro as n s0 ⟨n1, rfl, rfl, R0, hpre⟩
  refine ⟨by decide, Nat.le_of_ble_eq_true rfl, fun G hG => ?_⟩
  have hG : pm_Rules (RX3, 2, 122, cX3_fill, -1, (fun _ => 0), false, none, po_X3_fill [.inr (.inr (27, 0)), .inl n1, .inr (.inr (11, 0)), .inr (.inr (24, 0))] 122 s0) G := hG
  show G 0 [some (.inr (.inr (27, 0))), some (.inl n1), some (.inr (.inr (11, 0))), some (.inr (.inr (24, 0))), none, none] [] 122 s0
  refine px_aload_n hG dX3_fill_0 rfl ?_
  refine gr_27_0 hG dX3_fill_1 fl_X3_9 R0 ?_
  refine px_iload_n hG dX3_fill_4 rfl ?_
  refine al_28 hG dX3_fill_5 R0 (by omega) (fun x1 ex1 lx1 ux1 => ?_)
  refine px_if_eq hG dX3_fill_6 (tgt := 10) (by decide) ⟨by omega, by omega⟩ (fun c2 => ?_) (fun c2 => ?_)
  · refine px_aload_n hG dX3_fill_10 rfl ?_
    refine gr_27_0 hG dX3_fill_11 fl_X3_9 R0 ?_
    refine px_iload_n hG dX3_fill_14 rfl ?_
    refine px_iconst hG dX3_fill_15 ?_
    refine as_28 hG dX3_fill_16 R0 (by omega) (by omega) (fun s3 qs3 Rs3 => ?_)
    have Fs3 := pm_Fr_up ((pm_Fr_rf : pm_Fr [(28, none), (29, none), (30, none), (24, some 0), (25, none), (26, none)] s0 s0)) qs3 (M := [(28, none), (29, none), (30, none), (24, some 0), (25, none), (26, none)]) rfl
    refine px_iconst hG dX3_fill_17 ?_
    refine px_istore hG dX3_fill_18 (Nat.le_of_ble_eq_true rfl) (L2 := [some (.inr (.inr (27, 0))), some (.inl n1), some (.inr (.inr (11, 0))), some (.inr (.inr (24, 0))), some (.inl 1), none]) rfl ?_
    have L20 : ∀ (N : Nat) (v4_4 : Int) (s5 : pm_H), pm_Rng s5 → pm_Fr [(28, none), (29, none), (30, none), (24, some 0), (25, none), (26, none)] s0 s5 → ((1 ≤ v4_4 ∧ v4_4 ≤ 10000) ∧ (∀ i : Int, 1 ≤ i → i < v4_4 → s5 30 0 i = 1)) → (10001 - v4_4).toNat < N → G 20 [some (.inr (.inr (27, 0))), some (.inl n1), some (.inr (.inr (11, 0))), some (.inr (.inr (24, 0))), some (.inl v4_4), none] [] 122 s5 := by
      intro N
      induction N with
      | zero => intro v4_4 s5 R6 F7 inv9 hm10; exact absurd hm10 (Nat.not_lt_zero _)
      | succ N ih8 =>
        intro v4_4 s5 R6 F7 inv9 hm10
        have W := inv9.2
        refine px_iload hG dX3_fill_20 rfl ?_
        refine px_iload_n hG dX3_fill_22 rfl ?_
        have J40_12 : ((v4_4 > n1)) → G 40 [some (.inr (.inr (27, 0))), some (.inl n1), some (.inr (.inr (11, 0))), some (.inr (.inr (24, 0))), none, none] [] 122 s5 := by
          intro inv13
          have GO := pm_gd_ones (f := s5 30 0) (k := n1.toNat) (fun i h0 h1 => W i h0 (by omega))
          refine px_aload_n hG dX3_fill_40 rfl ?_
          refine px_iload_n hG dX3_fill_41 rfl ?_
          refine px_iload_n hG dX3_fill_42 rfl ?_
          refine jv2 hG dX3_fill_43 ct_X0_howMany lk_X3_24 ⟨rfl, rfl⟩ (by decide) ⟨Nat.le_of_ble_eq_true rfl, Nat.le_of_ble_eq_true rfl, Nat.le_of_ble_eq_true rfl⟩ (Nat.le_of_ble_eq_true rfl) ⟨n1, n1, rfl, rfl, R6, by omega⟩ (fun r14 t15 pr14 => ?_)
          obtain ⟨z16, rfl, rfl⟩ := pr14 _ _ rfl
          show G 46 [some (.inr (.inr (27, 0))), some (.inl n1), some (.inr (.inr (11, 0))), some (.inr (.inr (24, 0))), none, none] [.inr (.inl z16)] 122 s5
          refine px_normL hG ?_
          generalize hz17 : pm_wrapL z16 = z17
          have bz17 := hz17 ▸ pm_wrapL_in z16
          have iz17 := fun h => hz17.symm.trans (pm_wrapL_id (x := z16) h)
          refine px_lstore hG dX3_fill_46 (Nat.le_of_ble_eq_true rfl) (L2 := [some (.inr (.inr (27, 0))), some (.inl n1), some (.inr (.inr (11, 0))), some (.inr (.inr (24, 0))), some (.inr (.inl z17)), none]) rfl ?_
          have L48 : ∀ (N : Nat) (v4_18 : Int) (s19 : pm_H), pm_Rng s19 → pm_Fr [(28, none), (29, none), (30, none), (24, some 0), (25, none), (26, none)] s0 s19 → (((-9223372036854775808 ≤ v4_18 ∧ v4_18 ≤ 9223372036854775807) ∧ pm_gd (s19 30 0) n1.toNat)) → (v4_18).toNat < N → G 48 [some (.inr (.inr (27, 0))), some (.inl n1), some (.inr (.inr (11, 0))), some (.inr (.inr (24, 0))), some (.inr (.inl v4_18)), none] [] 122 s19 := by
            intro N
            induction N with
            | zero => intro v4_18 s19 R20 F21 inv23 hm24; exact absurd hm24 (Nat.not_lt_zero _)
            | succ N ih22 =>
              intro v4_18 s19 R20 F21 inv23 hm24
              have U := inv23
              refine px_lload hG dX3_fill_48 rfl ?_
              refine px_lconst hG dX3_fill_50 ?_
              show G 51 [some (.inr (.inr (27, 0))), some (.inl n1), some (.inr (.inr (11, 0))), some (.inr (.inr (24, 0))), some (.inr (.inl v4_18)), none] [.inr (.inl 0), .inr (.inl v4_18)] 122 s19
              refine px_lcmp hG dX3_fill_51 ⟨by omega, by omega⟩ ⟨by omega, by omega⟩ (fun x25 bx25 => ?_)
              refine px_if_le hG dX3_fill_52 (tgt := 107) (by decide) ⟨by omega, by omega⟩ (fun c26 => ?_) (fun c26 => ?_)
              · exact px_vret (st := []) hG dX3_fill_107 rfl rfl (fun n1_1 ee => by cases ee; exact ⟨rfl, R20, F21⟩)
              · refine px_aload_n hG dX3_fill_55 rfl ?_
                refine px_aload_n hG dX3_fill_56 rfl ?_
                refine gr_27_2 hG dX3_fill_57 fl_X3_20 R20 ?_
                refine px_iload_n hG dX3_fill_60 rfl ?_
                refine jv2 hG dX3_fill_61 ct_X9_buildP lk_X3_30 ⟨rfl, rfl⟩ (by decide) ⟨Nat.le_of_ble_eq_true rfl, Nat.le_of_ble_eq_true rfl, Nat.le_of_ble_eq_true rfl⟩ (Nat.le_of_ble_eq_true rfl) ⟨n1, rfl, rfl, R20, by omega⟩ (fun r27 t29 pr27 => ?_)
                obtain ⟨rfl, Rt29, Ft29, br27⟩ := pr27 _ rfl
                have Ff31 := pm_Fr_tr F21 Ft29 (M := [(28, none), (29, none), (30, none), (24, some 0), (25, none), (26, none)]) rfl
                show G 64 [some (.inr (.inr (27, 0))), some (.inl n1), some (.inr (.inr (11, 0))), some (.inr (.inr (24, 0))), some (.inr (.inl v4_18)), none] [] 122 t29
                have HB := br27
                have H1 := fun q h0 h1 => HB.2 U.2 q h0 h1
                have FB := Ft29
                refine px_aload_n hG dX3_fill_64 rfl ?_
                refine gr_27_1 hG dX3_fill_65 fl_X3_17 Rt29 ?_
                refine px_iload_n hG dX3_fill_68 rfl ?_
                refine aa_29 hG dX3_fill_69 (by omega) ?_
                refine px_aload_n hG dX3_fill_70 rfl ?_
                refine px_aload_n hG dX3_fill_71 rfl ?_
                refine jv0 hG dX3_fill_72 ct_X9_area lk_X3_36 ⟨rfl, rfl⟩ (by decide) ⟨Nat.le_of_ble_eq_true rfl, Nat.le_of_ble_eq_true rfl, Nat.le_of_ble_eq_true rfl⟩ (Nat.le_of_ble_eq_true rfl) ⟨rfl, rfl, Rt29⟩ (fun r32 t33 pr32 => ?_)
                obtain ⟨x34, rfl, rfl, br32⟩ := pr32 rfl
                show G 75 [some (.inr (.inr (27, 0))), some (.inl n1), some (.inr (.inr (11, 0))), some (.inr (.inr (24, 0))), some (.inr (.inl v4_18)), none] [.inl x34, .inr (.inr (27, 0)), .inr (.inr (29, n1))] 122 t29
                have A1 := br32 (fun j h0 h1 => H1 j h0 (by omega))
                have A2 := pm_t1_5 (a := (t29 24 0 0).toNat) (by omega)
                refine px_aload_n hG dX3_fill_75 rfl ?_
                refine jv0 hG dX3_fill_76 ct_X9_dinv lk_X3_40 ⟨rfl, rfl⟩ (by decide) ⟨Nat.le_of_ble_eq_true rfl, Nat.le_of_ble_eq_true rfl, Nat.le_of_ble_eq_true rfl⟩ (Nat.le_of_ble_eq_true rfl) ⟨rfl, rfl, Rt29⟩ (fun r35 t36 pr35 => ?_)
                obtain ⟨x37, rfl, rfl, br35⟩ := pr35 rfl
                show G 79 [some (.inr (.inr (27, 0))), some (.inl n1), some (.inr (.inr (11, 0))), some (.inr (.inr (24, 0))), some (.inr (.inl v4_18)), none] [.inl x37, .inl x34, .inr (.inr (27, 0)), .inr (.inr (29, n1))] 122 t29
                have D1 := br35
                refine jv2 hG dX3_fill_79 ct_X3_element lk_X3_43 ⟨rfl, rfl⟩ (by decide) ⟨Nat.le_of_ble_eq_true rfl, Nat.le_of_ble_eq_true rfl, Nat.le_of_ble_eq_true rfl⟩ (Nat.le_of_ble_eq_true rfl) ⟨x34, x37, rfl, rfl, Rt29, by omega⟩ (fun r38 t39 pr38 => ?_)
                obtain ⟨x40, rfl, rfl, br38⟩ := pr38 _ _ rfl
                show G 82 [some (.inr (.inr (27, 0))), some (.inl n1), some (.inr (.inr (11, 0))), some (.inr (.inr (24, 0))), some (.inr (.inl v4_18)), none] [.inl x40, .inr (.inr (29, n1))] 122 t29
                refine px_dup2 hG dX3_fill_82 ?_
                refine al_29 hG dX3_fill_83 Rt29 (by omega) (by omega) (fun x41 ex41 lx41 ux41 => ?_)
                refine px_iconst hG dX3_fill_84 ?_
                refine px_iadd hG dX3_fill_85 ?_
                refine as_29 hG dX3_fill_86 Rt29 (by omega) (by omega) (fun s42 qs42 Rs42 => ?_)
                have Fs42 := pm_Fr_up (Ff31) qs42 (M := [(28, none), (29, none), (30, none), (24, some 0), (25, none), (26, none)]) rfl
                have E2 := qs42
                have GX : pm_gd (s42 30 0) n1.toNat := pm_gd_eq U.2 (fun i => (pm_nec E2 (by decide)).trans (FB 30 0 i rfl))
                refine px_aload_n hG dX3_fill_87 rfl ?_
                refine px_aload_n hG dX3_fill_88 rfl ?_
                refine gr_27_2 hG dX3_fill_89 fl_X3_20 Rs42 ?_
                refine px_iload_n hG dX3_fill_92 rfl ?_
                refine px_iload_n hG dX3_fill_93 rfl ?_
                refine jv3 hG dX3_fill_94 ct_X0_stepOnP lk_X3_47 ⟨rfl, rfl⟩ (by decide) ⟨Nat.le_of_ble_eq_true rfl, Nat.le_of_ble_eq_true rfl, Nat.le_of_ble_eq_true rfl⟩ (Nat.le_of_ble_eq_true rfl) ⟨n1, n1, rfl, rfl, Rs42, by omega⟩ (fun r43 t45 pr43 => ?_)
                obtain ⟨x46, rfl, Rt45, Ft45, br43⟩ := pr43 _ _ rfl
                have Ff47 := pm_Fr_tr Fs42 Ft45 (M := [(28, none), (29, none), (30, none), (24, some 0), (25, none), (26, none)]) rfl
                show G 97 [some (.inr (.inr (27, 0))), some (.inl n1), some (.inr (.inr (11, 0))), some (.inr (.inr (24, 0))), some (.inr (.inl v4_18)), none] [.inl x46] 122 t45
                have GY := br43.2 rfl GX
                refine px_popi hG dX3_fill_97 ?_
                refine px_lload hG dX3_fill_98 rfl ?_
                refine px_lconst hG dX3_fill_100 ?_
                show G 101 [some (.inr (.inr (27, 0))), some (.inl n1), some (.inr (.inr (11, 0))), some (.inr (.inr (24, 0))), some (.inr (.inl v4_18)), none] [.inr (.inl 1), .inr (.inl v4_18)] 122 t45
                refine px_lsub hG dX3_fill_101 ?_
                refine px_lstore hG dX3_fill_102 (Nat.le_of_ble_eq_true rfl) (L2 := [some (.inr (.inr (27, 0))), some (.inl n1), some (.inr (.inr (11, 0))), some (.inr (.inr (24, 0))), some (.inr (.inl (v4_18 - 1))), none]) rfl ?_
                refine px_goto hG dX3_fill_104 (tgt := 48) (by decide) ?_
                exact ih22 (v4_18 - 1) t45 Rt45 Ff47 (⟨by omega, GY⟩) (by omega)
          exact L48 _ z17 s5 R6 F7 (⟨by omega, GO⟩) (Nat.lt_succ_self _)
        refine px_ic_gt hG dX3_fill_23 (tgt := 40) (by decide) ⟨by omega, by omega⟩ ⟨by omega, by omega⟩ (fun c11 => ?_) (fun c11 => ?_)
        · refine px_weak hG (L2 := [some (.inr (.inr (27, 0))), some (.inl n1), some (.inr (.inr (11, 0))), some (.inr (.inr (24, 0))), none, none]) ⟨Or.inr rfl, Or.inr rfl, Or.inr rfl, Or.inr rfl, Or.inl rfl, Or.inr rfl, trivial⟩ ?_
          exact J40_12  (by omega)
        · refine px_aload_n hG dX3_fill_26 rfl ?_
          refine gr_27_2 hG dX3_fill_27 fl_X3_20 R6 ?_
          refine px_iload hG dX3_fill_30 rfl ?_
          refine px_iconst hG dX3_fill_32 ?_
          refine as_30 hG dX3_fill_33 R6 (by omega) (by omega) (fun s48 qs48 Rs48 => ?_)
          have Fs48 := pm_Fr_up (F7) qs48 (M := [(28, none), (29, none), (30, none), (24, some 0), (25, none), (26, none)]) rfl
          have E1 := qs48
          refine px_iinc hG dX3_fill_34 (Nat.le_of_ble_eq_true rfl) rfl (L2 := [some (.inr (.inr (27, 0))), some (.inl n1), some (.inr (.inr (11, 0))), some (.inr (.inr (24, 0))), some (.inl (v4_4 + 1)), none]) rfl ?_
          refine px_goto hG dX3_fill_37 (tgt := 20) (by decide) ?_
          exact ih8 (v4_4 + 1) s48 Rs48 Fs48 (⟨by omega, fun i h0 h1 => pm_ostep W E1 i h0 h1⟩) (by omega)
    exact L20 _ 1 s3 Rs3 Fs3 (⟨by omega, fun i h0 h1 => by omega⟩) (Nat.lt_succ_self _)
  · exact px_vret (st := []) hG dX3_fill_9 rfl rfl (fun n1_1 ee => by cases ee; exact ⟨rfl, R0, pm_Fr_rf⟩))
