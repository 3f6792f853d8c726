/-! ===== the model: more methods ===== -/
theorem pm_all_s {P : Int → Prop} {v : Int} (W : ∀ q : Int, 0 ≤ q → q < v → P q) (h : P v) : ∀ q : Int, 0 ≤ q → q < v + 1 → P q := fun q h0 h1 => by
  by_cases e : q = v
  · subst e
    exact h
  · exact W q h0 (by omega)
def pre_X11_like (as : List pm_V) (n : Nat) (σ : pm_H) : Prop := as = [.inr (.inr (40, 0))] ∧ n = 122 ∧ pm_Rng σ ∧ (pm_J2 σ)
def po_X11_like (as : List pm_V) (_ : Nat) (σ : pm_H) (r : Option pm_V) (τ : pm_H) : Prop := as = [.inr (.inr (40, 0))] → ∃ v : Int, r = some (.inr (.inl v)) ∧ pm_Rng τ ∧ pm_Fr [(43, none), (44, none)] σ τ
set_option maxRecDepth 20000 in
set_option maxHeartbeats 4000000 in
theorem ct_X11_like : pm_Ct yX11_like cX11_like 6 (some .long) 4 0 pre_X11_like po_X11_like := pm_sound (ini := false) (by decide +kernel) pk_X11_like (fun h => absurd h (by decide)) (by
  rintro as n s0 ⟨rfl, rfl, R0, hpre⟩
  refine ⟨by decide, Nat.le_of_ble_eq_true rfl, fun G hG => ?_⟩
  have hG : pm_Rules (RX11, 4, 122, cX11_like, -1, (fun _ => 0), false, (some .long), po_X11_like [.inr (.inr (40, 0))] 122 s0) G := hG
  show G 0 [some (.inr (.inr (40, 0))), none, none, none, none, none] [] 122 s0
  have B0 := pb_40_0 R0
  have B1 := pb_40_1 R0
  have B2 := pb_40_2 R0
  have B3 := pb_40_3 R0
  have J2 := hpre
  have JK := J2.1
  have JW := J2.2
  refine px_aload_n hG dX11_like_0 rfl ?_
  refine jv0 hG dX11_like_1 ct_X11_isWell lk_X11_167 ⟨rfl, rfl⟩ (by decide) ⟨Nat.le_of_ble_eq_true rfl, Nat.le_of_ble_eq_true rfl, Nat.le_of_ble_eq_true rfl⟩ (Nat.le_of_ble_eq_true rfl) ⟨rfl, rfl, R0, J2⟩ (fun r1 t3 pr1 => ?_)
  obtain ⟨x4, rfl, Rt3, Ft3, br1⟩ := pr1 rfl
  have Ff5 := pm_Fr_mono Ft3 (M := [(43, none), (44, none)]) rfl
  have jj6 := Ft3 40 0 0 rfl
  have jj7 := Ft3 40 0 1 rfl
  have jj8 := Ft3 40 0 2 rfl
  have jj9 := Ft3 40 0 3 rfl
  show G 4 [some (.inr (.inr (40, 0))), none, none, none, none, none] [.inl x4] 122 t3
  refine px_if_ne hG dX11_like_4 (tgt := 11) (by decide) ⟨by omega, by omega⟩ (fun c10 => ?_) (fun c10 => ?_)
  · refine px_lconst hG dX11_like_11 ?_
    show G 12 [some (.inr (.inr (40, 0))), none, none, none, none, none] [.inr (.inl 1)] 122 t3
    refine px_lstore_n hG dX11_like_12 (Nat.le_of_ble_eq_true rfl) (L2 := [some (.inr (.inr (40, 0))), some (.inr (.inl 1)), none, none, none, none]) rfl ?_
    refine px_iconst hG dX11_like_13 ?_
    refine px_istore_n hG dX11_like_14 (Nat.le_of_ble_eq_true rfl) (L2 := [some (.inr (.inr (40, 0))), some (.inr (.inl 1)), none, some (.inl 1), none, none]) rfl ?_
    have L15 : ∀ (N : Nat) (v1_11 : Int) (v3_12 : Int), ((1 ≤ v3_12 ∧ v3_12 ≤ 10000)) → (10001 - v3_12).toNat < N → G 15 [some (.inr (.inr (40, 0))), some (.inr (.inl v1_11)), none, some (.inl v3_12), none, none] [] 122 t3 := by
      intro N
      induction N with
      | zero => intro v1_11 v3_12 inv14 hm15; exact absurd hm15 (Nat.not_lt_zero _)
      | succ N ih13 =>
        intro v1_11 v3_12 inv14 hm15
        refine px_iload_n hG dX11_like_15 rfl ?_
        refine px_aload_n hG dX11_like_16 rfl ?_
        refine gi_40_3 hG dX11_like_17 fl_X11_110 Rt3 (fun x16 ex16 lx16 ux16 => ?_)
        have ex16 : s0 40 0 3 = x16 := (Ff5 40 0 3 rfl).symm.trans ex16
        refine px_ic_gt hG dX11_like_20 (tgt := 82) (by decide) ⟨by omega, by omega⟩ ⟨by omega, by omega⟩ (fun c17 => ?_) (fun c17 => ?_)
        · refine px_lload_n hG dX11_like_82 rfl ?_
          have jj18 := Ff5 40 0 0 rfl
          have jj19 := Ff5 40 0 1 rfl
          have jj20 := Ff5 40 0 2 rfl
          have jj21 := Ff5 40 0 3 rfl
          exact px_lret (st := []) hG dX11_like_83 rfl rfl (fun _ => by exact ⟨_, rfl, Rt3, Ff5⟩)
        · refine px_iconst hG dX11_like_23 ?_
          refine px_istore hG dX11_like_24 (Nat.le_of_ble_eq_true rfl) (L2 := [some (.inr (.inr (40, 0))), some (.inr (.inl v1_11)), none, some (.inl v3_12), some (.inl 0), none]) rfl ?_
          refine px_aload_n hG dX11_like_26 rfl ?_
          refine gr_40_6 hG dX11_like_27 fl_X11_20 Rt3 ?_
          refine px_iload_n hG dX11_like_30 rfl ?_
          refine al_43 hG dX11_like_31 Rt3 (by omega) (fun x22 ex22 lx22 ux22 => ?_)
          refine px_istore hG dX11_like_32 (Nat.le_of_ble_eq_true rfl) (L2 := [some (.inr (.inr (40, 0))), some (.inr (.inl v1_11)), none, some (.inl v3_12), some (.inl 0), some (.inl x22)]) rfl ?_
          have L34 : ∀ (N : Nat) (v4_23 : Int) (v5_24 : Int), ((0 ≤ v4_23 ∧ v4_23 ≤ 10000) ∧ (-10000 ≤ v5_24 ∧ v5_24 ≤ x22) ∧ (v4_23 + v5_24 ≤ 10)) → (v5_24 + 10001).toNat < N → G 34 [some (.inr (.inr (40, 0))), some (.inr (.inl v1_11)), none, some (.inl v3_12), some (.inl v4_23), some (.inl v5_24)] [] 122 t3 := by
            intro N
            induction N with
            | zero => intro v4_23 v5_24 inv26 hm27; exact absurd hm27 (Nat.not_lt_zero _)
            | succ N ih25 =>
              intro v4_23 v5_24 inv26 hm27
              refine px_iload hG dX11_like_34 rfl ?_
              refine px_iconst hG dX11_like_36 ?_
              have J70_29 : ((v5_24 < 1) ∨ (¬ (v5_24 < 1))) → G 70 [some (.inr (.inr (40, 0))), some (.inr (.inl v1_11)), none, some (.inl v3_12), some (.inl v4_23), none] [] 122 t3 := by
                intro inv30
                refine px_lload_n hG dX11_like_70 rfl ?_
                refine px_iload hG dX11_like_71 rfl ?_
                refine px_i2l hG dX11_like_73 ⟨by omega, by omega⟩ ?_
                refine px_lmul hG dX11_like_74 ?_
                refine px_lstore_n hG dX11_like_75 (Nat.le_of_ble_eq_true rfl) (L2 := [some (.inr (.inr (40, 0))), some (.inr (.inl (v1_11 * v4_23))), none, some (.inl v3_12), some (.inl v4_23), none]) rfl ?_
                refine px_iinc hG dX11_like_76 (Nat.le_of_ble_eq_true rfl) rfl (L2 := [some (.inr (.inr (40, 0))), some (.inr (.inl (v1_11 * v4_23))), none, some (.inl (v3_12 + 1)), some (.inl v4_23), none]) rfl ?_
                refine px_goto hG dX11_like_79 (tgt := 15) (by decide) ?_
                refine px_weak hG (L2 := [some (.inr (.inr (40, 0))), some (.inr (.inl (v1_11 * v4_23))), none, some (.inl (v3_12 + 1)), none, none]) ⟨Or.inr rfl, Or.inr rfl, Or.inr rfl, Or.inr rfl, Or.inl rfl, Or.inr rfl, trivial⟩ ?_
                exact ih13 (v1_11 * v4_23) (v3_12 + 1) (by omega) (by omega)
              refine px_ic_lt hG dX11_like_37 (tgt := 70) (by decide) ⟨by omega, by omega⟩ ⟨by omega, by omega⟩ (fun c28 => ?_) (fun c28 => ?_)
              · refine px_weak hG (L2 := [some (.inr (.inr (40, 0))), some (.inr (.inl v1_11)), none, some (.inl v3_12), some (.inl v4_23), none]) ⟨Or.inr rfl, Or.inr rfl, Or.inr rfl, Or.inr rfl, Or.inr rfl, Or.inl rfl, trivial⟩ ?_
                exact J70_29  (by omega)
              · refine px_aload_n hG dX11_like_40 rfl ?_
                refine gr_40_7 hG dX11_like_41 fl_X11_23 Rt3 ?_
                refine px_iload hG dX11_like_44 rfl ?_
                refine al_44 hG dX11_like_46 Rt3 (by omega) (fun x31 ex31 lx31 ux31 => ?_)
                refine px_if_eq hG dX11_like_47 (tgt := 70) (by decide) ⟨by omega, by omega⟩ (fun c32 => ?_) (fun c32 => ?_)
                · refine px_weak hG (L2 := [some (.inr (.inr (40, 0))), some (.inr (.inl v1_11)), none, some (.inl v3_12), some (.inl v4_23), none]) ⟨Or.inr rfl, Or.inr rfl, Or.inr rfl, Or.inr rfl, Or.inr rfl, Or.inl rfl, trivial⟩ ?_
                  exact J70_29  (by omega)
                · refine px_aload_n hG dX11_like_50 rfl ?_
                  refine gr_40_7 hG dX11_like_51 fl_X11_23 Rt3 ?_
                  refine px_iload hG dX11_like_54 rfl ?_
                  refine al_44 hG dX11_like_56 Rt3 (by omega) (fun x33 ex33 lx33 ux33 => ?_)
                  refine px_iload_n hG dX11_like_57 rfl ?_
                  refine px_ic_gt hG dX11_like_58 (tgt := 70) (by decide) ⟨by omega, by omega⟩ ⟨by omega, by omega⟩ (fun c34 => ?_) (fun c34 => ?_)
                  · refine px_weak hG (L2 := [some (.inr (.inr (40, 0))), some (.inr (.inl v1_11)), none, some (.inl v3_12), some (.inl v4_23), none]) ⟨Or.inr rfl, Or.inr rfl, Or.inr rfl, Or.inr rfl, Or.inr rfl, Or.inl rfl, trivial⟩ ?_
                    exact J70_29  (by omega)
                  · refine px_iinc hG dX11_like_61 (Nat.le_of_ble_eq_true rfl) rfl (L2 := [some (.inr (.inr (40, 0))), some (.inr (.inl v1_11)), none, some (.inl v3_12), some (.inl (v4_23 + 1)), some (.inl v5_24)]) rfl ?_
                    refine px_iinc hG dX11_like_64 (Nat.le_of_ble_eq_true rfl) rfl (L2 := [some (.inr (.inr (40, 0))), some (.inr (.inl v1_11)), none, some (.inl v3_12), some (.inl (v4_23 + 1)), some (.inl (v5_24 + -1))]) rfl ?_
                    refine px_goto hG dX11_like_67 (tgt := 34) (by decide) ?_
                    exact ih25 (v4_23 + 1) (v5_24 + -1) (⟨by omega, by omega, by omega⟩) (by omega)
          exact L34 _ 0 x22 (⟨by omega, by omega, by omega⟩) (Nat.lt_succ_self _)
    exact L15 _ 1 1 (by omega) (Nat.lt_succ_self _)
  · refine px_ldc2 hG dX11_like_7 cn_X11_174 ?_
    show G 10 [some (.inr (.inr (40, 0))), none, none, none, none, none] [.inr (.inl (-2))] 122 t3
    have jj35 := Ff5 40 0 0 rfl
    have jj36 := Ff5 40 0 1 rfl
    have jj37 := Ff5 40 0 2 rfl
    have jj38 := Ff5 40 0 3 rfl
    exact px_lret (st := []) hG dX11_like_10 rfl rfl (fun _ => by exact ⟨_, rfl, Rt3, Ff5⟩))
def pre_X11_orders (as : List pm_V) (n : Nat) (σ : pm_H) : Prop := as = [.inr (.inr (40, 0))] ∧ n = 122 ∧ pm_Rng σ ∧ (pm_J2 σ)
def po_X11_orders (as : List pm_V) (_ : Nat) (σ : pm_H) (r : Option pm_V) (τ : pm_H) : Prop := as = [.inr (.inr (40, 0))] → ∃ v : Int, r = some (.inr (.inl v)) ∧ σ = τ
set_option maxRecDepth 20000 in
set_option maxHeartbeats 4000000 in
theorem ct_X11_orders : pm_Ct yX11_orders cX11_orders 7 (some .long) 2 0 pre_X11_orders po_X11_orders := pm_sound (ini := false) (by decide +kernel) pk_X11_orders (fun h => absurd h (by decide)) (by
  rintro as n s0 ⟨rfl, rfl, R0, hpre⟩
  refine ⟨by decide, Nat.le_of_ble_eq_true rfl, fun G hG => ?_⟩
  have hG : pm_Rules (RX11, 2, 122, cX11_orders, -1, (fun _ => 0), false, (some .long), po_X11_orders [.inr (.inr (40, 0))] 122 s0) G := hG
  show G 0 [some (.inr (.inr (40, 0))), none, none, none, none, none, none] [] 122 s0
  have B0 := pb_40_0 R0
  have B1 := pb_40_1 R0
  have B2 := pb_40_2 R0
  have B3 := pb_40_3 R0
  have J2 := hpre
  have JK := J2.1
  have JW := J2.2
  refine px_aload_n hG dX11_orders_0 rfl ?_
  refine gi_40_0 hG dX11_orders_1 fl_X11_104 R0 (fun x1 ex1 lx1 ux1 => ?_)
  refine px_if_eq hG dX11_orders_4 (tgt := 11) (by decide) ⟨by omega, by omega⟩ (fun c2 => ?_) (fun c2 => ?_)
  · refine px_lconst hG dX11_orders_11 ?_
    show G 12 [some (.inr (.inr (40, 0))), none, none, none, none, none, none] [.inr (.inl 1)] 122 s0
    refine px_lstore_n hG dX11_orders_12 (Nat.le_of_ble_eq_true rfl) (L2 := [some (.inr (.inr (40, 0))), some (.inr (.inl 1)), none, none, none, none, none]) rfl ?_
    refine px_aload_n hG dX11_orders_13 rfl ?_
    refine gi_40_3 hG dX11_orders_14 fl_X11_110 R0 (fun x3 ex3 lx3 ux3 => ?_)
    refine px_istore_n hG dX11_orders_17 (Nat.le_of_ble_eq_true rfl) (L2 := [some (.inr (.inr (40, 0))), some (.inr (.inl 1)), none, some (.inl x3), none, none, none]) rfl ?_
    refine px_iconst hG dX11_orders_18 ?_
    refine px_istore hG dX11_orders_19 (Nat.le_of_ble_eq_true rfl) (L2 := [some (.inr (.inr (40, 0))), some (.inr (.inl 1)), none, some (.inl x3), some (.inl 1), none, none]) rfl ?_
    have L21 : ∀ (N : Nat) (v1_4 : Int) (v3_5 : Int) (v4_6 : Int), ((1 ≤ v4_6 ∧ v4_6 ≤ 10000) ∧ (v3_5 ≤ 10 ∧ -10 * (v4_6 - 1) ≤ v3_5 ∧ v4_6 ≤ 11)) → (10001 - v4_6).toNat < N → G 21 [some (.inr (.inr (40, 0))), some (.inr (.inl v1_4)), none, some (.inl v3_5), some (.inl v4_6), none, none] [] 122 s0 := by
      intro N
      induction N with
      | zero => intro v1_4 v3_5 v4_6 inv8 hm9; exact absurd hm9 (Nat.not_lt_zero _)
      | succ N ih7 =>
        intro v1_4 v3_5 v4_6 inv8 hm9
        refine px_iload hG dX11_orders_21 rfl ?_
        refine px_aload_n hG dX11_orders_23 rfl ?_
        refine gi_40_1 hG dX11_orders_24 fl_X11_7 R0 (fun x10 ex10 lx10 ux10 => ?_)
        refine px_ic_gt hG dX11_orders_27 (tgt := 94) (by decide) ⟨by omega, by omega⟩ ⟨by omega, by omega⟩ (fun c11 => ?_) (fun c11 => ?_)
        · refine px_lload_n hG dX11_orders_94 rfl ?_
          exact px_lret (st := []) hG dX11_orders_95 rfl rfl (fun _ => by exact ⟨_, rfl, rfl⟩)
        · refine px_iconst hG dX11_orders_30 ?_
          refine px_istore hG dX11_orders_31 (Nat.le_of_ble_eq_true rfl) (L2 := [some (.inr (.inr (40, 0))), some (.inr (.inl v1_4)), none, some (.inl v3_5), some (.inl v4_6), some (.inl 0), none]) rfl ?_
          refine px_iconst hG dX11_orders_33 ?_
          refine px_istore hG dX11_orders_34 (Nat.le_of_ble_eq_true rfl) (L2 := [some (.inr (.inr (40, 0))), some (.inr (.inl v1_4)), none, some (.inl v3_5), some (.inl v4_6), some (.inl 0), some (.inl 1)]) rfl ?_
          have L36 : ∀ (N : Nat) (v5_12 : Int) (v6_13 : Int), ((1 ≤ v6_13 ∧ v6_13 ≤ 10000) ∧ (0 ≤ v5_12 ∧ v5_12 ≤ v6_13 - 1 ∧ v6_13 ≤ 11)) → (10001 - v6_13).toNat < N → G 36 [some (.inr (.inr (40, 0))), some (.inr (.inl v1_4)), none, some (.inl v3_5), some (.inl v4_6), some (.inl v5_12), some (.inl v6_13)] [] 122 s0 := by
            intro N
            induction N with
            | zero => intro v5_12 v6_13 inv15 hm16; exact absurd hm16 (Nat.not_lt_zero _)
            | succ N ih14 =>
              intro v5_12 v6_13 inv15 hm16
              refine px_iload hG dX11_orders_36 rfl ?_
              refine px_aload_n hG dX11_orders_38 rfl ?_
              refine gi_40_3 hG dX11_orders_39 fl_X11_110 R0 (fun x17 ex17 lx17 ux17 => ?_)
              have J73_19 : ((v6_13 > x17)) → G 73 [some (.inr (.inr (40, 0))), some (.inr (.inl v1_4)), none, some (.inl v3_5), some (.inl v4_6), some (.inl v5_12), none] [] 122 s0 := by
                intro inv20
                refine px_lload_n hG dX11_orders_73 rfl ?_
                refine px_aload_n hG dX11_orders_74 rfl ?_
                refine px_iload_n hG dX11_orders_75 rfl ?_
                refine px_iload hG dX11_orders_76 rfl ?_
                refine jv2 hG dX11_orders_78 ct_X11_choose lk_X11_148 ⟨rfl, rfl⟩ (by decide) ⟨Nat.le_of_ble_eq_true rfl, Nat.le_of_ble_eq_true rfl, Nat.le_of_ble_eq_true rfl⟩ (Nat.le_of_ble_eq_true rfl) ⟨v3_5, v5_12, rfl, rfl, R0, ⟨by omega, J2⟩⟩ (fun r21 t22 pr21 => ?_)
                obtain ⟨z23, rfl, rfl⟩ := pr21 _ _ rfl
                show G 81 [some (.inr (.inr (40, 0))), some (.inr (.inl v1_4)), none, some (.inl v3_5), some (.inl v4_6), some (.inl v5_12), none] [.inr (.inl z23), .inr (.inl v1_4)] 122 s0
                refine px_lmul hG dX11_orders_81 ?_
                refine px_lstore_n hG dX11_orders_82 (Nat.le_of_ble_eq_true rfl) (L2 := [some (.inr (.inr (40, 0))), some (.inr (.inl (v1_4 * z23))), none, some (.inl v3_5), some (.inl v4_6), some (.inl v5_12), none]) rfl ?_
                refine px_iload_n hG dX11_orders_83 rfl ?_
                refine px_iload hG dX11_orders_84 rfl ?_
                refine px_isub hG dX11_orders_86 ?_
                refine px_istore_n hG dX11_orders_87 (Nat.le_of_ble_eq_true rfl) (L2 := [some (.inr (.inr (40, 0))), some (.inr (.inl (v1_4 * z23))), none, some (.inl (v3_5 - v5_12)), some (.inl v4_6), some (.inl v5_12), none]) rfl ?_
                refine px_iinc hG dX11_orders_88 (Nat.le_of_ble_eq_true rfl) rfl (L2 := [some (.inr (.inr (40, 0))), some (.inr (.inl (v1_4 * z23))), none, some (.inl (v3_5 - v5_12)), some (.inl (v4_6 + 1)), some (.inl v5_12), none]) rfl ?_
                refine px_goto hG dX11_orders_91 (tgt := 21) (by decide) ?_
                refine px_weak hG (L2 := [some (.inr (.inr (40, 0))), some (.inr (.inl (v1_4 * z23))), none, some (.inl (v3_5 - v5_12)), some (.inl (v4_6 + 1)), none, none]) ⟨Or.inr rfl, Or.inr rfl, Or.inr rfl, Or.inr rfl, Or.inr rfl, Or.inl rfl, Or.inr rfl, trivial⟩ ?_
                exact ih7 (v1_4 * z23) (v3_5 - v5_12) (v4_6 + 1) (⟨by omega, by omega⟩) (by omega)
              refine px_ic_gt hG dX11_orders_42 (tgt := 73) (by decide) ⟨by omega, by omega⟩ ⟨by omega, by omega⟩ (fun c18 => ?_) (fun c18 => ?_)
              · refine px_weak hG (L2 := [some (.inr (.inr (40, 0))), some (.inr (.inl v1_4)), none, some (.inl v3_5), some (.inl v4_6), some (.inl v5_12), none]) ⟨Or.inr rfl, Or.inr rfl, Or.inr rfl, Or.inr rfl, Or.inr rfl, Or.inr rfl, Or.inl rfl, trivial⟩ ?_
                exact J73_19  (by omega)
              · refine px_iload hG dX11_orders_45 rfl ?_
                refine px_aload_n hG dX11_orders_47 rfl ?_
                refine gr_40_4 hG dX11_orders_48 fl_X11_13 R0 ?_
                refine px_iload hG dX11_orders_51 rfl ?_
                refine al_41 hG dX11_orders_53 R0 (by omega) (fun x24 ex24 lx24 ux24 => ?_)
                refine px_iload hG dX11_orders_54 rfl ?_
                refine px_ic_ne hG dX11_orders_56 (tgt := 63) (by decide) ⟨by omega, by omega⟩ ⟨by omega, by omega⟩ (fun c25 => ?_) (fun c25 => ?_)
                · refine px_iconst hG dX11_orders_63 ?_
                  refine px_iadd hG dX11_orders_64 ?_
                  refine px_istore hG dX11_orders_65 (Nat.le_of_ble_eq_true rfl) (L2 := [some (.inr (.inr (40, 0))), some (.inr (.inl v1_4)), none, some (.inl v3_5), some (.inl v4_6), some (.inl (v5_12 + 0)), some (.inl v6_13)]) rfl ?_
                  refine px_iinc hG dX11_orders_67 (Nat.le_of_ble_eq_true rfl) rfl (L2 := [some (.inr (.inr (40, 0))), some (.inr (.inl v1_4)), none, some (.inl v3_5), some (.inl v4_6), some (.inl (v5_12 + 0)), some (.inl (v6_13 + 1))]) rfl ?_
                  refine px_goto hG dX11_orders_70 (tgt := 36) (by decide) ?_
                  exact ih14 (v5_12 + 0) (v6_13 + 1) (⟨by omega, by omega⟩) (by omega)
                · refine px_iconst hG dX11_orders_59 ?_
                  refine px_goto hG dX11_orders_60 (tgt := 64) (by decide) ?_
                  refine px_iadd hG dX11_orders_64 ?_
                  refine px_istore hG dX11_orders_65 (Nat.le_of_ble_eq_true rfl) (L2 := [some (.inr (.inr (40, 0))), some (.inr (.inl v1_4)), none, some (.inl v3_5), some (.inl v4_6), some (.inl (v5_12 + 1)), some (.inl v6_13)]) rfl ?_
                  refine px_iinc hG dX11_orders_67 (Nat.le_of_ble_eq_true rfl) rfl (L2 := [some (.inr (.inr (40, 0))), some (.inr (.inl v1_4)), none, some (.inl v3_5), some (.inl v4_6), some (.inl (v5_12 + 1)), some (.inl (v6_13 + 1))]) rfl ?_
                  refine px_goto hG dX11_orders_70 (tgt := 36) (by decide) ?_
                  exact ih14 (v5_12 + 1) (v6_13 + 1) (⟨by omega, by omega⟩) (by omega)
          exact L36 _ 0 1 (⟨by omega, by omega⟩) (Nat.lt_succ_self _)
    exact L21 _ 1 x3 1 (⟨by omega, by omega⟩) (Nat.lt_succ_self _)
  · refine px_ldc2 hG dX11_orders_7 cn_X11_174 ?_
    show G 10 [some (.inr (.inr (40, 0))), none, none, none, none, none, none] [.inr (.inl (-2))] 122 s0
    exact px_lret (st := []) hG dX11_orders_10 rfl rfl (fun _ => by exact ⟨_, rfl, rfl⟩))
def pre_X11_sort (as : List pm_V) (n : Nat) (σ : pm_H) : Prop := as = [.inr (.inr (40, 0))] ∧ n = 122 ∧ pm_Rng σ ∧ (pm_J2 σ)
def po_X11_sort (as : List pm_V) (_ : Nat) (σ : pm_H) (r : Option pm_V) (τ : pm_H) : Prop := as = [.inr (.inr (40, 0))] → r = none ∧ pm_Rng τ ∧ pm_Fr [(41, none)] σ τ ∧ (pm_J2 τ)
set_option maxRecDepth 20000 in
set_option maxHeartbeats 4000000 in
theorem ct_X11_sort : pm_Ct yX11_sort cX11_sort 4 none 0 0 pre_X11_sort po_X11_sort := pm_sound (ini := false) (by decide +kernel) pk_X11_sort (fun h => absurd h (by decide)) (by
  rintro as n s0 ⟨rfl, rfl, R0, hpre⟩
  refine ⟨by decide, Nat.le_of_ble_eq_true rfl, fun G hG => ?_⟩
  have hG : pm_Rules (RX11, 0, 122, cX11_sort, -1, (fun _ => 0), false, none, po_X11_sort [.inr (.inr (40, 0))] 122 s0) G := hG
  show G 0 [some (.inr (.inr (40, 0))), none, none, none] [] 122 s0
  have B0 := pb_40_0 R0
  have B1 := pb_40_1 R0
  have B2 := pb_40_2 R0
  have B3 := pb_40_3 R0
  have J2 := hpre
  have JK := J2.1
  have JW := J2.2
  refine px_iconst hG dX11_sort_0 ?_
  refine px_istore_n hG dX11_sort_1 (Nat.le_of_ble_eq_true rfl) (L2 := [some (.inr (.inr (40, 0))), some (.inl 2), none, none]) rfl ?_
  have L2 : ∀ (N : Nat) (v1_1 : Int) (s2 : pm_H), pm_Rng s2 → pm_Fr [(41, none)] s0 s2 → ((2 ≤ v1_1 ∧ v1_1 ≤ 10000) ∧ (pm_J2 s2)) → (10001 - v1_1).toNat < N → G 2 [some (.inr (.inr (40, 0))), some (.inl v1_1), none, none] [] 122 s2 := by
    intro N
    induction N with
    | zero => intro v1_1 s2 R3 F4 inv6 hm7; exact absurd hm7 (Nat.not_lt_zero _)
    | succ N ih5 =>
      intro v1_1 s2 R3 F4 inv6 hm7
      have jj8 := F4 40 0 0 rfl
      have jj9 := F4 40 0 1 rfl
      have jj10 := F4 40 0 2 rfl
      have jj11 := F4 40 0 3 rfl
      have Js2 := inv6.2
      refine px_iload_n hG dX11_sort_2 rfl ?_
      refine px_aload_n hG dX11_sort_3 rfl ?_
      refine gi_40_3 hG dX11_sort_4 fl_X11_110 R3 (fun x12 ex12 lx12 ux12 => ?_)
      have ex12 : s0 40 0 3 = x12 := (F4 40 0 3 rfl).symm.trans ex12
      refine px_ic_gt hG dX11_sort_7 (tgt := 69) (by decide) ⟨by omega, by omega⟩ ⟨by omega, by omega⟩ (fun c13 => ?_) (fun c13 => ?_)
      · have jj14 := F4 40 0 0 rfl
        have jj15 := F4 40 0 1 rfl
        have jj16 := F4 40 0 2 rfl
        have jj17 := F4 40 0 3 rfl
        exact px_vret (st := []) hG dX11_sort_69 rfl rfl (fun _ => by exact ⟨rfl, R3, F4, Js2⟩)
      · refine px_aload_n hG dX11_sort_10 rfl ?_
        refine gr_40_4 hG dX11_sort_11 fl_X11_13 R3 ?_
        refine px_iload_n hG dX11_sort_14 rfl ?_
        refine al_41 hG dX11_sort_15 R3 (by omega) (fun x18 ex18 lx18 ux18 => ?_)
        have X1 := Js2.2 v1_1 (by omega) (by omega)
        rw [ex18] at X1
        refine px_istore_n hG dX11_sort_16 (Nat.le_of_ble_eq_true rfl) (L2 := [some (.inr (.inr (40, 0))), some (.inl v1_1), some (.inl x18), none]) rfl ?_
        refine px_iload_n hG dX11_sort_17 rfl ?_
        refine px_istore_n hG dX11_sort_18 (Nat.le_of_ble_eq_true rfl) (L2 := [some (.inr (.inr (40, 0))), some (.inl v1_1), some (.inl x18), some (.inl v1_1)]) rfl ?_
        have L19 : ∀ (N : Nat) (v3_19 : Int) (s20 : pm_H), pm_Rng s20 → pm_Fr [(41, none)] s0 s20 → ((-10000 ≤ v3_19 ∧ v3_19 ≤ v1_1) ∧ (pm_J2 s20 ∧ 1 ≤ v3_19)) → (v3_19 + 10001).toNat < N → G 19 [some (.inr (.inr (40, 0))), some (.inl v1_1), some (.inl x18), some (.inl v3_19)] [] 122 s20 := by
          intro N
          induction N with
          | zero => intro v3_19 s20 R21 F22 inv24 hm25; exact absurd hm25 (Nat.not_lt_zero _)
          | succ N ih23 =>
            intro v3_19 s20 R21 F22 inv24 hm25
            have jj26 := F22 40 0 0 rfl
            have jj27 := F22 40 0 1 rfl
            have jj28 := F22 40 0 2 rfl
            have jj29 := F22 40 0 3 rfl
            have Js20 := (inv24.2).1
            refine px_iload_n hG dX11_sort_19 rfl ?_
            refine px_iconst hG dX11_sort_20 ?_
            have J56_31 : ((v3_19 ≤ 1) ∨ (¬ (v3_19 ≤ 1))) → G 56 [some (.inr (.inr (40, 0))), some (.inl v1_1), some (.inl x18), some (.inl v3_19)] [] 122 s20 := by
              intro inv32
              refine px_aload_n hG dX11_sort_56 rfl ?_
              refine gr_40_4 hG dX11_sort_57 fl_X11_13 R21 ?_
              refine px_iload_n hG dX11_sort_60 rfl ?_
              refine px_iload_n hG dX11_sort_61 rfl ?_
              refine as_41 hG dX11_sort_62 R21 (by omega) (by omega) (fun s33 qs33 Rs33 => ?_)
              have Fs33 := pm_Fr_up (F22) qs33 (M := [(41, none)]) rfl
              have jj34 := pm_nec qs33 (c' := 40) (r' := 0) (i' := 0) (by decide)
              have jj35 := pm_nec qs33 (c' := 40) (r' := 0) (i' := 1) (by decide)
              have jj36 := pm_nec qs33 (c' := 40) (r' := 0) (i' := 2) (by decide)
              have jj37 := pm_nec qs33 (c' := 40) (r' := 0) (i' := 3) (by decide)
              have Js33 := pm_J2_wish qs33 (by omega) (by omega) Js20
              refine px_iinc hG dX11_sort_63 (Nat.le_of_ble_eq_true rfl) rfl (L2 := [some (.inr (.inr (40, 0))), some (.inl (v1_1 + 1)), some (.inl x18), some (.inl v3_19)]) rfl ?_
              refine px_goto hG dX11_sort_66 (tgt := 2) (by decide) ?_
              refine px_weak hG (L2 := [some (.inr (.inr (40, 0))), some (.inl (v1_1 + 1)), none, none]) ⟨Or.inr rfl, Or.inr rfl, Or.inl rfl, Or.inl rfl, trivial⟩ ?_
              exact ih5 (v1_1 + 1) s33 Rs33 Fs33 (⟨by omega, Js33⟩) (by omega)
            refine px_ic_le hG dX11_sort_21 (tgt := 56) (by decide) ⟨by omega, by omega⟩ ⟨by omega, by omega⟩ (fun c30 => ?_) (fun c30 => ?_)
            · exact J56_31  (by omega)
            · refine px_aload_n hG dX11_sort_24 rfl ?_
              refine gr_40_4 hG dX11_sort_25 fl_X11_13 R21 ?_
              refine px_iload_n hG dX11_sort_28 rfl ?_
              refine px_iconst hG dX11_sort_29 ?_
              refine px_isub hG dX11_sort_30 ?_
              refine al_41 hG dX11_sort_31 R21 (by omega) (fun x38 ex38 lx38 ux38 => ?_)
              have X3 := Js20.2 (v3_19 - 1) (by omega) (by omega)
              rw [ex38] at X3
              refine px_iload_n hG dX11_sort_32 rfl ?_
              refine px_ic_le hG dX11_sort_33 (tgt := 56) (by decide) ⟨by omega, by omega⟩ ⟨by omega, by omega⟩ (fun c39 => ?_) (fun c39 => ?_)
              · exact J56_31  (by omega)
              · refine px_aload_n hG dX11_sort_36 rfl ?_
                refine gr_40_4 hG dX11_sort_37 fl_X11_13 R21 ?_
                refine px_iload_n hG dX11_sort_40 rfl ?_
                refine px_aload_n hG dX11_sort_41 rfl ?_
                refine gr_40_4 hG dX11_sort_42 fl_X11_13 R21 ?_
                refine px_iload_n hG dX11_sort_45 rfl ?_
                refine px_iconst hG dX11_sort_46 ?_
                refine px_isub hG dX11_sort_47 ?_
                refine al_41 hG dX11_sort_48 R21 (by omega) (fun x40 ex40 lx40 ux40 => ?_)
                have X4 := Js20.2 (v3_19 - 1) (by omega) (by omega)
                rw [ex40] at X4
                refine as_41 hG dX11_sort_49 R21 (by omega) (by omega) (fun s41 qs41 Rs41 => ?_)
                have Fs41 := pm_Fr_up (F22) qs41 (M := [(41, none)]) rfl
                have jj42 := pm_nec qs41 (c' := 40) (r' := 0) (i' := 0) (by decide)
                have jj43 := pm_nec qs41 (c' := 40) (r' := 0) (i' := 1) (by decide)
                have jj44 := pm_nec qs41 (c' := 40) (r' := 0) (i' := 2) (by decide)
                have jj45 := pm_nec qs41 (c' := 40) (r' := 0) (i' := 3) (by decide)
                have Js41 := pm_J2_wish qs41 (by omega) (by omega) Js20
                refine px_iinc hG dX11_sort_50 (Nat.le_of_ble_eq_true rfl) rfl (L2 := [some (.inr (.inr (40, 0))), some (.inl v1_1), some (.inl x18), some (.inl (v3_19 + -1))]) rfl ?_
                refine px_goto hG dX11_sort_53 (tgt := 19) (by decide) ?_
                exact ih23 (v3_19 + -1) s41 Rs41 Fs41 (⟨by omega, ⟨Js41, by omega⟩⟩) (by omega)
        exact L19 _ v1_1 s2 R3 F4 (⟨by omega, ⟨Js2, by omega⟩⟩) (Nat.lt_succ_self _)
  exact L2 _ 2 s0 R0 pm_Fr_rf (⟨by omega, J2⟩) (Nat.lt_succ_self _))
def pre_X11_rise (as : List pm_V) (n : Nat) (σ : pm_H) : Prop := as = [.inr (.inr (40, 0))] ∧ n = 122 ∧ pm_Rng σ ∧ (pm_J2 σ)
def po_X11_rise (as : List pm_V) (_ : Nat) (σ : pm_H) (r : Option pm_V) (τ : pm_H) : Prop := as = [.inr (.inr (40, 0))] → ∃ v : Int, r = some (.inl v) ∧ pm_Rng τ ∧ pm_Fr [(41, none), (45, none)] σ τ ∧ (pm_J2 τ)
set_option maxRecDepth 20000 in
set_option maxHeartbeats 4000000 in
theorem ct_X11_rise : pm_Ct yX11_rise cX11_rise 3 (some .int) 1 0 pre_X11_rise po_X11_rise := pm_sound (ini := false) (by decide +kernel) pk_X11_rise (fun h => absurd h (by decide)) (by
  rintro as n s0 ⟨rfl, rfl, R0, hpre⟩
  refine ⟨by decide, Nat.le_of_ble_eq_true rfl, fun G hG => ?_⟩
  have hG : pm_Rules (RX11, 1, 122, cX11_rise, -1, (fun _ => 0), false, (some .int), po_X11_rise [.inr (.inr (40, 0))] 122 s0) G := hG
  show G 0 [some (.inr (.inr (40, 0))), none, none] [] 122 s0
  have B0 := pb_40_0 R0
  have B1 := pb_40_1 R0
  have B2 := pb_40_2 R0
  have B3 := pb_40_3 R0
  have J2 := hpre
  have JK := J2.1
  have JW := J2.2
  refine px_iconst hG dX11_rise_0 ?_
  refine px_istore_n hG dX11_rise_1 (Nat.le_of_ble_eq_true rfl) (L2 := [some (.inr (.inr (40, 0))), some (.inl 1), none]) rfl ?_
  have L2 : ∀ (N : Nat) (v1_1 : Int) (s2 : pm_H), pm_Rng s2 → pm_Fr [(41, none), (45, none)] s0 s2 → ((1 ≤ v1_1 ∧ v1_1 ≤ 10000) ∧ (pm_J2 s2)) → (10001 - v1_1).toNat < N → G 2 [some (.inr (.inr (40, 0))), some (.inl v1_1), none] [] 122 s2 := by
    intro N
    induction N with
    | zero => intro v1_1 s2 R3 F4 inv6 hm7; exact absurd hm7 (Nat.not_lt_zero _)
    | succ N ih5 =>
      intro v1_1 s2 R3 F4 inv6 hm7
      have jj8 := F4 40 0 0 rfl
      have jj9 := F4 40 0 1 rfl
      have jj10 := F4 40 0 2 rfl
      have jj11 := F4 40 0 3 rfl
      have Js2 := inv6.2
      refine px_iload_n hG dX11_rise_2 rfl ?_
      refine px_aload_n hG dX11_rise_3 rfl ?_
      refine gi_40_3 hG dX11_rise_4 fl_X11_110 R3 (fun x12 ex12 lx12 ux12 => ?_)
      have ex12 : s0 40 0 3 = x12 := (F4 40 0 3 rfl).symm.trans ex12
      have J28_14 : ((v1_1 > x12)) → G 28 [some (.inr (.inr (40, 0))), none, none] [] 122 s2 := by
        intro inv15
        refine px_aload_n hG dX11_rise_28 rfl ?_
        refine jv0 hG dX11_rise_29 ct_X11_sort lk_X11_180 ⟨rfl, rfl⟩ (by decide) ⟨Nat.le_of_ble_eq_true rfl, Nat.le_of_ble_eq_true rfl, Nat.le_of_ble_eq_true rfl⟩ (Nat.le_of_ble_eq_true rfl) ⟨rfl, rfl, R3, Js2⟩ (fun r16 t18 pr16 => ?_)
        obtain ⟨rfl, Rt18, Ft18, br16⟩ := pr16 rfl
        have Ff20 := pm_Fr_tr F4 Ft18 (M := [(41, none), (45, none)]) rfl
        have jj21 := Ft18 40 0 0 rfl
        have jj22 := Ft18 40 0 1 rfl
        have jj23 := Ft18 40 0 2 rfl
        have jj24 := Ft18 40 0 3 rfl
        have Jt18 : pm_J2 t18 := br16
        show G 32 [some (.inr (.inr (40, 0))), none, none] [] 122 t18
        refine px_iconst hG dX11_rise_32 ?_
        refine px_istore_n hG dX11_rise_33 (Nat.le_of_ble_eq_true rfl) (L2 := [some (.inr (.inr (40, 0))), some (.inl 0), none]) rfl ?_
        refine px_iconst hG dX11_rise_34 ?_
        refine px_istore_n hG dX11_rise_35 (Nat.le_of_ble_eq_true rfl) (L2 := [some (.inr (.inr (40, 0))), some (.inl 0), some (.inl 1)]) rfl ?_
        have L36 : ∀ (N : Nat) (v1_25 : Int) (v2_26 : Int), ((1 ≤ v2_26 ∧ v2_26 ≤ 10000)) → (10001 - v2_26).toNat < N → G 36 [some (.inr (.inr (40, 0))), some (.inl v1_25), some (.inl v2_26)] [] 122 t18 := by
          intro N
          induction N with
          | zero => intro v1_25 v2_26 inv28 hm29; exact absurd hm29 (Nat.not_lt_zero _)
          | succ N ih27 =>
            intro v1_25 v2_26 inv28 hm29
            refine px_iload_n hG dX11_rise_36 rfl ?_
            refine px_aload_n hG dX11_rise_37 rfl ?_
            refine gi_40_3 hG dX11_rise_38 fl_X11_110 Rt18 (fun x30 ex30 lx30 ux30 => ?_)
            have ex30 : s0 40 0 3 = x30 := (Ff20 40 0 3 rfl).symm.trans ex30
            refine px_ic_gt hG dX11_rise_41 (tgt := 73) (by decide) ⟨by omega, by omega⟩ ⟨by omega, by omega⟩ (fun c31 => ?_) (fun c31 => ?_)
            · refine px_iload_n hG dX11_rise_73 rfl ?_
              have jj32 := Ff20 40 0 0 rfl
              have jj33 := Ff20 40 0 1 rfl
              have jj34 := Ff20 40 0 2 rfl
              have jj35 := Ff20 40 0 3 rfl
              exact px_iret (st := []) hG dX11_rise_74 rfl rfl (fun _ => by exact ⟨_, rfl, Rt18, Ff20, Jt18⟩)
            · refine px_iload_n hG dX11_rise_44 rfl ?_
              refine px_aload_n hG dX11_rise_45 rfl ?_
              refine gr_40_4 hG dX11_rise_46 fl_X11_13 Rt18 ?_
              refine px_iload_n hG dX11_rise_49 rfl ?_
              refine al_41 hG dX11_rise_50 Rt18 (by omega) (fun x36 ex36 lx36 ux36 => ?_)
              refine px_aload_n hG dX11_rise_51 rfl ?_
              refine gr_40_8 hG dX11_rise_52 fl_X11_26 Rt18 ?_
              refine px_iload_n hG dX11_rise_55 rfl ?_
              refine al_45 hG dX11_rise_56 Rt18 (by omega) (fun x37 ex37 lx37 ux37 => ?_)
              refine px_ic_ne hG dX11_rise_57 (tgt := 64) (by decide) ⟨by omega, by omega⟩ ⟨by omega, by omega⟩ (fun c38 => ?_) (fun c38 => ?_)
              · refine px_iconst hG dX11_rise_64 ?_
                refine px_iadd hG dX11_rise_65 ?_
                refine px_istore_n hG dX11_rise_66 (Nat.le_of_ble_eq_true rfl) (L2 := [some (.inr (.inr (40, 0))), some (.inl (v1_25 + 1)), some (.inl v2_26)]) rfl ?_
                refine px_iinc hG dX11_rise_67 (Nat.le_of_ble_eq_true rfl) rfl (L2 := [some (.inr (.inr (40, 0))), some (.inl (v1_25 + 1)), some (.inl (v2_26 + 1))]) rfl ?_
                refine px_goto hG dX11_rise_70 (tgt := 36) (by decide) ?_
                exact ih27 (v1_25 + 1) (v2_26 + 1) (by omega) (by omega)
              · refine px_iconst hG dX11_rise_60 ?_
                refine px_goto hG dX11_rise_61 (tgt := 65) (by decide) ?_
                refine px_iadd hG dX11_rise_65 ?_
                refine px_istore_n hG dX11_rise_66 (Nat.le_of_ble_eq_true rfl) (L2 := [some (.inr (.inr (40, 0))), some (.inl (v1_25 + 0)), some (.inl v2_26)]) rfl ?_
                refine px_iinc hG dX11_rise_67 (Nat.le_of_ble_eq_true rfl) rfl (L2 := [some (.inr (.inr (40, 0))), some (.inl (v1_25 + 0)), some (.inl (v2_26 + 1))]) rfl ?_
                refine px_goto hG dX11_rise_70 (tgt := 36) (by decide) ?_
                exact ih27 (v1_25 + 0) (v2_26 + 1) (by omega) (by omega)
        exact L36 _ 0 1 (by omega) (Nat.lt_succ_self _)
      refine px_ic_gt hG dX11_rise_7 (tgt := 28) (by decide) ⟨by omega, by omega⟩ ⟨by omega, by omega⟩ (fun c13 => ?_) (fun c13 => ?_)
      · refine px_weak hG (L2 := [some (.inr (.inr (40, 0))), none, none]) ⟨Or.inr rfl, Or.inl rfl, Or.inr rfl, trivial⟩ ?_
        exact J28_14  (by omega)
      · refine px_aload_n hG dX11_rise_10 rfl ?_
        refine gr_40_8 hG dX11_rise_11 fl_X11_26 R3 ?_
        refine px_iload_n hG dX11_rise_14 rfl ?_
        refine px_aload_n hG dX11_rise_15 rfl ?_
        refine gr_40_4 hG dX11_rise_16 fl_X11_13 R3 ?_
        refine px_iload_n hG dX11_rise_19 rfl ?_
        refine al_41 hG dX11_rise_20 R3 (by omega) (fun x39 ex39 lx39 ux39 => ?_)
        refine as_45 hG dX11_rise_21 R3 (by omega) (by omega) (fun s40 qs40 Rs40 => ?_)
        have Fs40 := pm_Fr_up (F4) qs40 (M := [(41, none), (45, none)]) rfl
        have jj41 := pm_nec qs40 (c' := 40) (r' := 0) (i' := 0) (by decide)
        have jj42 := pm_nec qs40 (c' := 40) (r' := 0) (i' := 1) (by decide)
        have jj43 := pm_nec qs40 (c' := 40) (r' := 0) (i' := 2) (by decide)
        have jj44 := pm_nec qs40 (c' := 40) (r' := 0) (i' := 3) (by decide)
        have Js40 := pm_J2_up qs40 (by decide) (by decide) Js2
        refine px_iinc hG dX11_rise_22 (Nat.le_of_ble_eq_true rfl) rfl (L2 := [some (.inr (.inr (40, 0))), some (.inl (v1_1 + 1)), none]) rfl ?_
        refine px_goto hG dX11_rise_25 (tgt := 2) (by decide) ?_
        exact ih5 (v1_1 + 1) s40 Rs40 Fs40 (⟨by omega, Js40⟩) (by omega)
  exact L2 _ 1 s0 R0 pm_Fr_rf (⟨by omega, J2⟩) (Nat.lt_succ_self _))
def pre_X11_findRising (as : List pm_V) (n : Nat) (σ : pm_H) : Prop := ∃ m1 : Int, as = [.inr (.inr (40, 0)), .inl m1] ∧ n = 122 ∧ pm_Rng σ ∧ ((0 ≤ m1 ∧ m1 ≤ 10) ∧ pm_J2 σ)
def po_X11_findRising (as : List pm_V) (_ : Nat) (σ : pm_H) (r : Option pm_V) (τ : pm_H) : Prop := ∀ m1 : Int, as = [.inr (.inr (40, 0)), .inl m1] → r = none ∧ pm_Rng τ ∧ pm_Fr [(49, none)] σ τ
set_option maxRecDepth 20000 in
set_option maxHeartbeats 4000000 in
theorem ct_X11_findRising : pm_Ct yX11_findRising cX11_findRising 6 none 0 0 pre_X11_findRising po_X11_findRising := pm_sound (ini := false) (by decide +kernel) pk_X11_findRising (fun h => absurd h (by decide)) (by
  rintro as n s0 ⟨m1, rfl, rfl, R0, hpre⟩
  refine ⟨by decide, Nat.le_of_ble_eq_true rfl, fun G hG => ?_⟩
  have hG : pm_Rules (RX11, 0, 122, cX11_findRising, -1, (fun _ => 0), false, none, po_X11_findRising [.inr (.inr (40, 0)), .inl m1] 122 s0) G := hG
  show G 0 [some (.inr (.inr (40, 0))), some (.inl m1), none, none, none, none] [] 122 s0
  have B0 := pb_40_0 R0
  have B1 := pb_40_1 R0
  have B2 := pb_40_2 R0
  have B3 := pb_40_3 R0
  have J2 := hpre.2
  have HP := hpre.1
  have JK := J2.1
  have JW := J2.2
  refine px_iconst hG dX11_findRising_0 ?_
  refine px_istore_n hG dX11_findRising_1 (Nat.le_of_ble_eq_true rfl) (L2 := [some (.inr (.inr (40, 0))), some (.inl m1), some (.inl 0), none, none, none]) rfl ?_
  have L2 : ∀ (N : Nat) (v2_1 : Int) (s2 : pm_H), pm_Rng s2 → pm_Fr [(49, none)] s0 s2 → ((0 ≤ v2_1 ∧ v2_1 ≤ 10000)) → (10001 - v2_1).toNat < N → G 2 [some (.inr (.inr (40, 0))), some (.inl m1), some (.inl v2_1), none, none, none] [] 122 s2 := by
    intro N
    induction N with
    | zero => intro v2_1 s2 R3 F4 inv6 hm7; exact absurd hm7 (Nat.not_lt_zero _)
    | succ N ih5 =>
      intro v2_1 s2 R3 F4 inv6 hm7
      have jj8 := F4 40 0 0 rfl
      have jj9 := F4 40 0 1 rfl
      have jj10 := F4 40 0 2 rfl
      have jj11 := F4 40 0 3 rfl
      refine px_iload_n hG dX11_findRising_2 rfl ?_
      refine px_bipush hG dX11_findRising_3 (by decide) ?_
      have J28_13 : ((v2_1 ≥ 12)) → G 28 [some (.inr (.inr (40, 0))), some (.inl m1), none, none, none, none] [] 122 s2 := by
        intro inv14
        refine px_iload_n hG dX11_findRising_28 rfl ?_
        refine px_istore_n hG dX11_findRising_29 (Nat.le_of_ble_eq_true rfl) (L2 := [some (.inr (.inr (40, 0))), some (.inl m1), some (.inl m1), none, none, none]) rfl ?_
        have L30 : ∀ (N : Nat) (v2_15 : Int) (s16 : pm_H), pm_Rng s16 → pm_Fr [(49, none)] s0 s16 → ((-10000 ≤ v2_15 ∧ v2_15 ≤ m1)) → (v2_15 + 10001).toNat < N → G 30 [some (.inr (.inr (40, 0))), some (.inl m1), some (.inl v2_15), none, none, none] [] 122 s16 := by
          intro N
          induction N with
          | zero => intro v2_15 s16 R17 F18 inv20 hm21; exact absurd hm21 (Nat.not_lt_zero _)
          | succ N ih19 =>
            intro v2_15 s16 R17 F18 inv20 hm21
            have jj22 := F18 40 0 0 rfl
            have jj23 := F18 40 0 1 rfl
            have jj24 := F18 40 0 2 rfl
            have jj25 := F18 40 0 3 rfl
            refine px_iload_n hG dX11_findRising_30 rfl ?_
            refine px_iconst hG dX11_findRising_31 ?_
            refine px_ic_lt hG dX11_findRising_32 (tgt := 123) (by decide) ⟨by omega, by omega⟩ ⟨by omega, by omega⟩ (fun c26 => ?_) (fun c26 => ?_)
            · have jj27 := F18 40 0 0 rfl
              have jj28 := F18 40 0 1 rfl
              have jj29 := F18 40 0 2 rfl
              have jj30 := F18 40 0 3 rfl
              exact px_vret (st := []) hG dX11_findRising_123 rfl rfl (fun m1_1 ee => by cases ee; exact ⟨rfl, R17, F18⟩)
            · refine px_bipush hG dX11_findRising_35 (by decide) ?_
              refine px_istore_n hG dX11_findRising_37 (Nat.le_of_ble_eq_true rfl) (L2 := [some (.inr (.inr (40, 0))), some (.inl m1), some (.inl v2_15), some (.inl 11), none, none]) rfl ?_
              have L38 : ∀ (N : Nat) (v3_31 : Int) (s32 : pm_H), pm_Rng s32 → pm_Fr [(49, none)] s0 s32 → ((-10000 ≤ v3_31 ∧ v3_31 ≤ 11)) → (v3_31 + 10001).toNat < N → G 38 [some (.inr (.inr (40, 0))), some (.inl m1), some (.inl v2_15), some (.inl v3_31), none, none] [] 122 s32 := by
                intro N
                induction N with
                | zero => intro v3_31 s32 R33 F34 inv36 hm37; exact absurd hm37 (Nat.not_lt_zero _)
                | succ N ih35 =>
                  intro v3_31 s32 R33 F34 inv36 hm37
                  have jj38 := F34 40 0 0 rfl
                  have jj39 := F34 40 0 1 rfl
                  have jj40 := F34 40 0 2 rfl
                  have jj41 := F34 40 0 3 rfl
                  refine px_iload_n hG dX11_findRising_38 rfl ?_
                  refine px_iconst hG dX11_findRising_39 ?_
                  refine px_ic_lt hG dX11_findRising_40 (tgt := 117) (by decide) ⟨by omega, by omega⟩ ⟨by omega, by omega⟩ (fun c42 => ?_) (fun c42 => ?_)
                  · refine px_iinc hG dX11_findRising_117 (Nat.le_of_ble_eq_true rfl) rfl (L2 := [some (.inr (.inr (40, 0))), some (.inl m1), some (.inl (v2_15 + -1)), some (.inl v3_31), none, none]) rfl ?_
                    refine px_goto hG dX11_findRising_120 (tgt := 30) (by decide) ?_
                    refine px_weak hG (L2 := [some (.inr (.inr (40, 0))), some (.inl m1), some (.inl (v2_15 + -1)), none, none, none]) ⟨Or.inr rfl, Or.inr rfl, Or.inr rfl, Or.inl rfl, Or.inr rfl, Or.inr rfl, trivial⟩ ?_
                    exact ih19 (v2_15 + -1) s32 R33 F34 (by omega) (by omega)
                  · refine px_iload_n hG dX11_findRising_43 rfl ?_
                    refine px_aload_n hG dX11_findRising_44 rfl ?_
                    refine gi_40_1 hG dX11_findRising_45 fl_X11_7 R33 (fun x43 ex43 lx43 ux43 => ?_)
                    have ex43 : s0 40 0 1 = x43 := (F34 40 0 1 rfl).symm.trans ex43
                    refine px_iload_n hG dX11_findRising_48 rfl ?_
                    refine px_isub hG dX11_findRising_49 ?_
                    refine px_iload_n hG dX11_findRising_50 rfl ?_
                    refine px_iadd hG dX11_findRising_51 ?_
                    have J72_46 : ∀ (j45 : Int), ((v3_31 > ((x43 - m1) + v2_15) ∧ j45 = 0) ∨ (¬ (v3_31 > ((x43 - m1) + v2_15)))) → G 72 [some (.inr (.inr (40, 0))), some (.inl m1), some (.inl v2_15), some (.inl v3_31), none, none] [.inr (.inl j45)] 122 s32 := by
                      intro j45 inv47
                      refine px_lstore hG dX11_findRising_72 (Nat.le_of_ble_eq_true rfl) (L2 := [some (.inr (.inr (40, 0))), some (.inl m1), some (.inl v2_15), some (.inl v3_31), some (.inr (.inl j45)), none]) rfl ?_
                      refine px_aload_n hG dX11_findRising_74 rfl ?_
                      refine gr_40_12 hG dX11_findRising_75 fl_X11_39 R33 ?_
                      refine px_bipush hG dX11_findRising_78 (by decide) ?_
                      refine px_iload_n hG dX11_findRising_80 rfl ?_
                      refine px_imul hG dX11_findRising_81 ?_
                      refine px_iload_n hG dX11_findRising_82 rfl ?_
                      refine px_iadd hG dX11_findRising_83 ?_
                      refine px_lload hG dX11_findRising_84 rfl ?_
                      refine px_iload_n hG dX11_findRising_86 rfl ?_
                      refine px_bipush hG dX11_findRising_87 (by decide) ?_
                      refine px_ic_ge hG dX11_findRising_89 (tgt := 108) (by decide) ⟨by omega, by omega⟩ ⟨by omega, by omega⟩ (fun c48 => ?_) (fun c48 => ?_)
                      · refine px_lconst hG dX11_findRising_108 ?_
                        show G 109 [some (.inr (.inr (40, 0))), some (.inl m1), some (.inl v2_15), some (.inl v3_31), some (.inr (.inl j45)), none] [.inr (.inl 0), .inr (.inl j45), .inl ((12 * v2_15) + v3_31), .inr (.inr (49, 0))] 122 s32
                        refine px_ladd hG dX11_findRising_109 ?_
                        refine as_49 hG dX11_findRising_110 R33 (by omega) (fun s49 qs49 Rs49 => ?_)
                        have Fs49 := pm_Fr_up (F34) qs49 (M := [(49, none)]) rfl
                        have jj50 := pm_nec qs49 (c' := 40) (r' := 0) (i' := 0) (by decide)
                        have jj51 := pm_nec qs49 (c' := 40) (r' := 0) (i' := 1) (by decide)
                        have jj52 := pm_nec qs49 (c' := 40) (r' := 0) (i' := 2) (by decide)
                        have jj53 := pm_nec qs49 (c' := 40) (r' := 0) (i' := 3) (by decide)
                        refine px_iinc hG dX11_findRising_111 (Nat.le_of_ble_eq_true rfl) rfl (L2 := [some (.inr (.inr (40, 0))), some (.inl m1), some (.inl v2_15), some (.inl (v3_31 + -1)), some (.inr (.inl j45)), none]) rfl ?_
                        refine px_goto hG dX11_findRising_114 (tgt := 38) (by decide) ?_
                        refine px_weak hG (L2 := [some (.inr (.inr (40, 0))), some (.inl m1), some (.inl v2_15), some (.inl (v3_31 + -1)), none, none]) ⟨Or.inr rfl, Or.inr rfl, Or.inr rfl, Or.inr rfl, Or.inl rfl, Or.inr rfl, trivial⟩ ?_
                        exact ih35 (v3_31 + -1) s49 Rs49 Fs49 (by omega) (by omega)
                      · refine px_aload_n hG dX11_findRising_92 rfl ?_
                        refine gr_40_12 hG dX11_findRising_93 fl_X11_39 R33 ?_
                        refine px_bipush hG dX11_findRising_96 (by decide) ?_
                        refine px_iload_n hG dX11_findRising_98 rfl ?_
                        refine px_imul hG dX11_findRising_99 ?_
                        refine px_iload_n hG dX11_findRising_100 rfl ?_
                        refine px_iadd hG dX11_findRising_101 ?_
                        refine px_iconst hG dX11_findRising_102 ?_
                        refine px_iadd hG dX11_findRising_103 ?_
                        refine al_49 hG dX11_findRising_104 (by omega) (fun z54 ez54 => ?_)
                        refine px_goto hG dX11_findRising_105 (tgt := 109) (by decide) ?_
                        refine px_ladd hG dX11_findRising_109 ?_
                        refine as_49 hG dX11_findRising_110 R33 (by omega) (fun s55 qs55 Rs55 => ?_)
                        have Fs55 := pm_Fr_up (F34) qs55 (M := [(49, none)]) rfl
                        have jj56 := pm_nec qs55 (c' := 40) (r' := 0) (i' := 0) (by decide)
                        have jj57 := pm_nec qs55 (c' := 40) (r' := 0) (i' := 1) (by decide)
                        have jj58 := pm_nec qs55 (c' := 40) (r' := 0) (i' := 2) (by decide)
                        have jj59 := pm_nec qs55 (c' := 40) (r' := 0) (i' := 3) (by decide)
                        refine px_iinc hG dX11_findRising_111 (Nat.le_of_ble_eq_true rfl) rfl (L2 := [some (.inr (.inr (40, 0))), some (.inl m1), some (.inl v2_15), some (.inl (v3_31 + -1)), some (.inr (.inl j45)), none]) rfl ?_
                        refine px_goto hG dX11_findRising_114 (tgt := 38) (by decide) ?_
                        refine px_weak hG (L2 := [some (.inr (.inr (40, 0))), some (.inl m1), some (.inl v2_15), some (.inl (v3_31 + -1)), none, none]) ⟨Or.inr rfl, Or.inr rfl, Or.inr rfl, Or.inr rfl, Or.inl rfl, Or.inr rfl, trivial⟩ ?_
                        exact ih35 (v3_31 + -1) s55 Rs55 Fs55 (by omega) (by omega)
                    refine px_ic_gt hG dX11_findRising_52 (tgt := 71) (by decide) ⟨by omega, by omega⟩ ⟨by omega, by omega⟩ (fun c44 => ?_) (fun c44 => ?_)
                    · refine px_lconst hG dX11_findRising_71 ?_
                      show G 72 [some (.inr (.inr (40, 0))), some (.inl m1), some (.inl v2_15), some (.inl v3_31), none, none] [.inr (.inl 0)] 122 s32
                      exact J72_46 0 (by omega)
                    · refine px_aload_n hG dX11_findRising_55 rfl ?_
                      refine gr_40_12 hG dX11_findRising_56 fl_X11_39 R33 ?_
                      refine px_bipush hG dX11_findRising_59 (by decide) ?_
                      refine px_iload_n hG dX11_findRising_61 rfl ?_
                      refine px_iconst hG dX11_findRising_62 ?_
                      refine px_iadd hG dX11_findRising_63 ?_
                      refine px_imul hG dX11_findRising_64 ?_
                      refine px_iload_n hG dX11_findRising_65 rfl ?_
                      refine px_iadd hG dX11_findRising_66 ?_
                      refine al_49 hG dX11_findRising_67 (by omega) (fun z60 ez60 => ?_)
                      refine px_goto hG dX11_findRising_68 (tgt := 72) (by decide) ?_
                      exact J72_46 z60 (by omega)
              exact L38 _ 11 s16 R17 F18 (by omega) (Nat.lt_succ_self _)
        exact L30 _ m1 s2 R3 F4 (by omega) (Nat.lt_succ_self _)
      refine px_ic_ge hG dX11_findRising_5 (tgt := 28) (by decide) ⟨by omega, by omega⟩ ⟨by omega, by omega⟩ (fun c12 => ?_) (fun c12 => ?_)
      · refine px_weak hG (L2 := [some (.inr (.inr (40, 0))), some (.inl m1), none, none, none, none]) ⟨Or.inr rfl, Or.inr rfl, Or.inl rfl, Or.inr rfl, Or.inr rfl, Or.inr rfl, trivial⟩ ?_
        exact J28_13  (by omega)
      · refine px_aload_n hG dX11_findRising_8 rfl ?_
        refine gr_40_12 hG dX11_findRising_9 fl_X11_39 R3 ?_
        refine px_bipush hG dX11_findRising_12 (by decide) ?_
        refine px_iload_n hG dX11_findRising_14 rfl ?_
        refine px_iconst hG dX11_findRising_15 ?_
        refine px_iadd hG dX11_findRising_16 ?_
        refine px_imul hG dX11_findRising_17 ?_
        refine px_iload_n hG dX11_findRising_18 rfl ?_
        refine px_iadd hG dX11_findRising_19 ?_
        refine px_lconst hG dX11_findRising_20 ?_
        show G 21 [some (.inr (.inr (40, 0))), some (.inl m1), some (.inl v2_1), none, none, none] [.inr (.inl 1), .inl ((12 * (m1 + 1)) + v2_1), .inr (.inr (49, 0))] 122 s2
        refine as_49 hG dX11_findRising_21 R3 (by omega) (fun s61 qs61 Rs61 => ?_)
        have Fs61 := pm_Fr_up (F4) qs61 (M := [(49, none)]) rfl
        have jj62 := pm_nec qs61 (c' := 40) (r' := 0) (i' := 0) (by decide)
        have jj63 := pm_nec qs61 (c' := 40) (r' := 0) (i' := 1) (by decide)
        have jj64 := pm_nec qs61 (c' := 40) (r' := 0) (i' := 2) (by decide)
        have jj65 := pm_nec qs61 (c' := 40) (r' := 0) (i' := 3) (by decide)
        refine px_iinc hG dX11_findRising_22 (Nat.le_of_ble_eq_true rfl) rfl (L2 := [some (.inr (.inr (40, 0))), some (.inl m1), some (.inl (v2_1 + 1)), none, none, none]) rfl ?_
        refine px_goto hG dX11_findRising_25 (tgt := 2) (by decide) ?_
        exact ih5 (v2_1 + 1) s61 Rs61 Fs61 (by omega) (by omega)
  exact L2 _ 0 s0 R0 pm_Fr_rf (by omega) (Nat.lt_succ_self _))
def pre_X11_risingsOf (as : List pm_V) (n : Nat) (σ : pm_H) : Prop := ∃ m1 : Int, as = [.inr (.inr (40, 0)), .inl m1] ∧ n = 122 ∧ pm_Rng σ ∧ ((0 ≤ m1 ∧ m1 ≤ 10) ∧ pm_J2 σ)
def po_X11_risingsOf (as : List pm_V) (_ : Nat) (σ : pm_H) (r : Option pm_V) (τ : pm_H) : Prop := ∀ m1 : Int, as = [.inr (.inr (40, 0)), .inl m1] → ∃ v : Int, r = some (.inr (.inl v)) ∧ pm_Rng τ ∧ pm_Fr [(49, none)] σ τ
set_option maxRecDepth 20000 in
set_option maxHeartbeats 4000000 in
theorem ct_X11_risingsOf : pm_Ct yX11_risingsOf cX11_risingsOf 2 (some .long) 1 0 pre_X11_risingsOf po_X11_risingsOf := pm_sound (ini := false) (by decide +kernel) pk_X11_risingsOf (fun h => absurd h (by decide)) (by
  rintro as n s0 ⟨m1, rfl, rfl, R0, hpre⟩
  refine ⟨by decide, Nat.le_of_ble_eq_true rfl, fun G hG => ?_⟩
  have hG : pm_Rules (RX11, 1, 122, cX11_risingsOf, -1, (fun _ => 0), false, (some .long), po_X11_risingsOf [.inr (.inr (40, 0)), .inl m1] 122 s0) G := hG
  show G 0 [some (.inr (.inr (40, 0))), some (.inl m1)] [] 122 s0
  have B0 := pb_40_0 R0
  have B1 := pb_40_1 R0
  have B2 := pb_40_2 R0
  have B3 := pb_40_3 R0
  have J2 := hpre.2
  have HP := hpre.1
  have JK := J2.1
  have JW := J2.2
  refine px_aload_n hG dX11_risingsOf_0 rfl ?_
  refine px_iload_n hG dX11_risingsOf_1 rfl ?_
  refine jv1 hG dX11_risingsOf_2 ct_X11_findRising lk_X11_183 ⟨rfl, rfl⟩ (by decide) ⟨Nat.le_of_ble_eq_true rfl, Nat.le_of_ble_eq_true rfl, Nat.le_of_ble_eq_true rfl⟩ (Nat.le_of_ble_eq_true rfl) ⟨m1, rfl, rfl, R0, ⟨by omega, J2⟩⟩ (fun r1 t3 pr1 => ?_)
  obtain ⟨rfl, Rt3, Ft3⟩ := pr1 _ rfl
  have Ff5 := pm_Fr_mono Ft3 (M := [(49, none)]) rfl
  have jj6 := Ft3 40 0 0 rfl
  have jj7 := Ft3 40 0 1 rfl
  have jj8 := Ft3 40 0 2 rfl
  have jj9 := Ft3 40 0 3 rfl
  show G 5 [some (.inr (.inr (40, 0))), some (.inl m1)] [] 122 t3
  refine px_aload_n hG dX11_risingsOf_5 rfl ?_
  refine gr_40_12 hG dX11_risingsOf_6 fl_X11_39 Rt3 ?_
  refine px_bipush hG dX11_risingsOf_9 (by decide) ?_
  refine al_49 hG dX11_risingsOf_11 (by omega) (fun z10 ez10 => ?_)
  have jj11 := Ff5 40 0 0 rfl
  have jj12 := Ff5 40 0 1 rfl
  have jj13 := Ff5 40 0 2 rfl
  have jj14 := Ff5 40 0 3 rfl
  exact px_lret (st := []) hG dX11_risingsOf_12 rfl rfl (fun m1_1 ee => by cases ee; exact ⟨_, rfl, Rt3, Ff5⟩))
def pre_X11_risings (as : List pm_V) (n : Nat) (σ : pm_H) : Prop := ∃ m1 : Int, as = [.inr (.inr (40, 0)), .inl m1] ∧ n = 122 ∧ pm_Rng σ ∧ ((pm_in m1) ∧ pm_J2 σ)
def po_X11_risings (as : List pm_V) (_ : Nat) (σ : pm_H) (r : Option pm_V) (τ : pm_H) : Prop := ∀ m1 : Int, as = [.inr (.inr (40, 0)), .inl m1] → ∃ v : Int, r = some (.inr (.inl v)) ∧ pm_Rng τ ∧ pm_Fr [(49, none)] σ τ
set_option maxRecDepth 20000 in
set_option maxHeartbeats 4000000 in
theorem ct_X11_risings : pm_Ct yX11_risings cX11_risings 2 (some .long) 2 0 pre_X11_risings po_X11_risings := pm_sound (ini := false) (by decide +kernel) pk_X11_risings (fun h => absurd h (by decide)) (by
  rintro as n s0 ⟨m1, rfl, rfl, R0, hpre⟩
  refine ⟨by decide, Nat.le_of_ble_eq_true rfl, fun G hG => ?_⟩
  have hG : pm_Rules (RX11, 2, 122, cX11_risings, -1, (fun _ => 0), false, (some .long), po_X11_risings [.inr (.inr (40, 0)), .inl m1] 122 s0) G := hG
  show G 0 [some (.inr (.inr (40, 0))), some (.inl m1)] [] 122 s0
  have B0 := pb_40_0 R0
  have B1 := pb_40_1 R0
  have B2 := pb_40_2 R0
  have B3 := pb_40_3 R0
  have J2 := hpre.2
  have HP := hpre.1
  have JK := J2.1
  have JW := J2.2
  refine px_iload_n hG dX11_risings_0 rfl ?_
  refine px_i2l hG dX11_risings_1 ⟨by omega, by omega⟩ ?_
  refine px_lconst hG dX11_risings_2 ?_
  show G 3 [some (.inr (.inr (40, 0))), some (.inl m1)] [.inr (.inl 0), .inr (.inl m1)] 122 s0
  refine px_aload_n hG dX11_risings_3 rfl ?_
  refine gi_40_1 hG dX11_risings_4 fl_X11_7 R0 (fun x1 ex1 lx1 ux1 => ?_)
  refine px_i2l hG dX11_risings_7 ⟨by omega, by omega⟩ ?_
  refine js3 hG dX11_risings_8 ct_X11_in lk_X11_96 ⟨Nat.le_of_ble_eq_true rfl, Nat.le_of_ble_eq_true rfl, Nat.le_of_ble_eq_true rfl⟩ (Nat.le_of_ble_eq_true rfl) ⟨m1, 0, x1, rfl, rfl, R0, by omega⟩ (fun r2 t3 pr2 => ?_)
  obtain ⟨x4, rfl, rfl, br2⟩ := pr2 _ _ _ rfl
  show G 11 [some (.inr (.inr (40, 0))), some (.inl m1)] [.inl x4] 122 s0
  refine px_if_eq hG dX11_risings_11 (tgt := 22) (by decide) ⟨by omega, by omega⟩ (fun c5 => ?_) (fun c5 => ?_)
  · refine px_ldc2 hG dX11_risings_22 cn_X11_162 ?_
    show G 25 [some (.inr (.inr (40, 0))), some (.inl m1)] [.inr (.inl (-1))] 122 s0
    exact px_lret (st := []) hG dX11_risings_25 rfl rfl (fun m1_1 ee => by cases ee; exact ⟨_, rfl, R0, pm_Fr_rf⟩)
  · refine px_aload_n hG dX11_risings_14 rfl ?_
    refine px_iload_n hG dX11_risings_15 rfl ?_
    refine jv1 hG dX11_risings_16 ct_X11_risingsOf lk_X11_186 ⟨rfl, rfl⟩ (by decide) ⟨Nat.le_of_ble_eq_true rfl, Nat.le_of_ble_eq_true rfl, Nat.le_of_ble_eq_true rfl⟩ (Nat.le_of_ble_eq_true rfl) ⟨m1, rfl, rfl, R0, ⟨by omega, J2⟩⟩ (fun r6 t8 pr6 => ?_)
    obtain ⟨z9, rfl, Rt8, Ft8⟩ := pr6 _ rfl
    have Ff10 := pm_Fr_mono Ft8 (M := [(49, none)]) rfl
    have jj11 := Ft8 40 0 0 rfl
    have jj12 := Ft8 40 0 1 rfl
    have jj13 := Ft8 40 0 2 rfl
    have jj14 := Ft8 40 0 3 rfl
    have k15 : t8 40 0 1 = x1 := (Ft8 40 0 1 rfl).trans ex1
    show G 19 [some (.inr (.inr (40, 0))), some (.inl m1)] [.inr (.inl z9)] 122 t8
    refine px_goto hG dX11_risings_19 (tgt := 25) (by decide) ?_
    have jj16 := Ff10 40 0 0 rfl
    have jj17 := Ff10 40 0 1 rfl
    have jj18 := Ff10 40 0 2 rfl
    have jj19 := Ff10 40 0 3 rfl
    exact px_lret (st := []) hG dX11_risings_25 rfl rfl (fun m1_1 ee => by cases ee; exact ⟨_, rfl, Rt8, Ff10⟩))
def pre_X11_riseRank (as : List pm_V) (n : Nat) (σ : pm_H) : Prop := as = [.inr (.inr (40, 0))] ∧ n = 122 ∧ pm_Rng σ ∧ (pm_J2 σ)
def po_X11_riseRank (as : List pm_V) (_ : Nat) (σ : pm_H) (r : Option pm_V) (τ : pm_H) : Prop := as = [.inr (.inr (40, 0))] → ∃ v : Int, r = some (.inr (.inl v)) ∧ pm_Rng τ ∧ pm_Fr [(43, none), (44, none), (49, none)] σ τ
set_option maxRecDepth 20000 in
set_option maxHeartbeats 4000000 in
theorem ct_X11_riseRank : pm_Ct yX11_riseRank cX11_riseRank 6 (some .long) 4 0 pre_X11_riseRank po_X11_riseRank := pm_sound (ini := false) (by decide +kernel) pk_X11_riseRank (fun h => absurd h (by decide)) (by
  rintro as n s0 ⟨rfl, rfl, R0, hpre⟩
  refine ⟨by decide, Nat.le_of_ble_eq_true rfl, fun G hG => ?_⟩
  have hG : pm_Rules (RX11, 4, 122, cX11_riseRank, -1, (fun _ => 0), false, (some .long), po_X11_riseRank [.inr (.inr (40, 0))] 122 s0) G := hG
  show G 0 [some (.inr (.inr (40, 0))), none, none, none, none, none] [] 122 s0
  have B0 := pb_40_0 R0
  have B1 := pb_40_1 R0
  have B2 := pb_40_2 R0
  have B3 := pb_40_3 R0
  have J2 := hpre
  have JK := J2.1
  have JW := J2.2
  refine px_aload_n hG dX11_riseRank_0 rfl ?_
  refine jv0 hG dX11_riseRank_1 ct_X11_isWell lk_X11_167 ⟨rfl, rfl⟩ (by decide) ⟨Nat.le_of_ble_eq_true rfl, Nat.le_of_ble_eq_true rfl, Nat.le_of_ble_eq_true rfl⟩ (Nat.le_of_ble_eq_true rfl) ⟨rfl, rfl, R0, J2⟩ (fun r1 t3 pr1 => ?_)
  obtain ⟨x4, rfl, Rt3, Ft3, br1⟩ := pr1 rfl
  have Ff5 := pm_Fr_mono Ft3 (M := [(43, none), (44, none), (49, none)]) rfl
  have jj6 := Ft3 40 0 0 rfl
  have jj7 := Ft3 40 0 1 rfl
  have jj8 := Ft3 40 0 2 rfl
  have jj9 := Ft3 40 0 3 rfl
  show G 4 [some (.inr (.inr (40, 0))), none, none, none, none, none] [.inl x4] 122 t3
  refine px_istore_n hG dX11_riseRank_4 (Nat.le_of_ble_eq_true rfl) (L2 := [some (.inr (.inr (40, 0))), some (.inl x4), none, none, none, none]) rfl ?_
  refine px_iconst hG dX11_riseRank_5 ?_
  refine px_istore_n hG dX11_riseRank_6 (Nat.le_of_ble_eq_true rfl) (L2 := [some (.inr (.inr (40, 0))), some (.inl x4), some (.inl 2), none, none, none]) rfl ?_
  have L7 : ∀ (N : Nat) (v1_10 : Int) (v2_11 : Int), ((2 ≤ v2_11 ∧ v2_11 ≤ 10000) ∧ ((v1_10 = 0 ∨ v1_10 = 1))) → (10001 - v2_11).toNat < N → G 7 [some (.inr (.inr (40, 0))), some (.inl v1_10), some (.inl v2_11), none, none, none] [] 122 t3 := by
    intro N
    induction N with
    | zero => intro v1_10 v2_11 inv13 hm14; exact absurd hm14 (Nat.not_lt_zero _)
    | succ N ih12 =>
      intro v1_10 v2_11 inv13 hm14
      refine px_iload_n hG dX11_riseRank_7 rfl ?_
      refine px_aload_n hG dX11_riseRank_8 rfl ?_
      refine gi_40_3 hG dX11_riseRank_9 fl_X11_110 Rt3 (fun x15 ex15 lx15 ux15 => ?_)
      have ex15 : s0 40 0 3 = x15 := (Ff5 40 0 3 rfl).symm.trans ex15
      have J48_17 : ((v2_11 > x15)) → G 48 [some (.inr (.inr (40, 0))), some (.inl v1_10), none, none, none, none] [] 122 t3 := by
        intro inv18
        refine px_iload_n hG dX11_riseRank_48 rfl ?_
        refine px_if_ne hG dX11_riseRank_49 (tgt := 56) (by decide) ⟨by omega, by omega⟩ (fun c19 => ?_) (fun c19 => ?_)
        · refine px_aload_n hG dX11_riseRank_56 rfl ?_
          refine px_aload_n hG dX11_riseRank_57 rfl ?_
          refine gi_40_3 hG dX11_riseRank_58 fl_X11_110 Rt3 (fun x20 ex20 lx20 ux20 => ?_)
          have ex20 : s0 40 0 3 = x20 := (Ff5 40 0 3 rfl).symm.trans ex20
          refine jv1 hG dX11_riseRank_61 ct_X11_findRising lk_X11_183 ⟨rfl, rfl⟩ (by decide) ⟨Nat.le_of_ble_eq_true rfl, Nat.le_of_ble_eq_true rfl, Nat.le_of_ble_eq_true rfl⟩ (Nat.le_of_ble_eq_true rfl) ⟨x20, rfl, rfl, Rt3, ⟨by omega, (pm_J2_fr Ff5 rfl J2)⟩⟩ (fun r21 t23 pr21 => ?_)
          obtain ⟨rfl, Rt23, Ft23⟩ := pr21 _ rfl
          have Ff25 := pm_Fr_tr Ff5 Ft23 (M := [(43, none), (44, none), (49, none)]) rfl
          have jj26 := Ft23 40 0 0 rfl
          have jj27 := Ft23 40 0 1 rfl
          have jj28 := Ft23 40 0 2 rfl
          have jj29 := Ft23 40 0 3 rfl
          show G 64 [some (.inr (.inr (40, 0))), some (.inl v1_10), none, none, none, none] [] 122 t23
          refine px_lconst hG dX11_riseRank_64 ?_
          show G 65 [some (.inr (.inr (40, 0))), some (.inl v1_10), none, none, none, none] [.inr (.inl 0)] 122 t23
          refine px_lstore_n hG dX11_riseRank_65 (Nat.le_of_ble_eq_true rfl) (L2 := [some (.inr (.inr (40, 0))), some (.inl v1_10), some (.inr (.inl 0)), none, none, none]) rfl ?_
          refine px_iconst hG dX11_riseRank_66 ?_
          refine px_istore hG dX11_riseRank_67 (Nat.le_of_ble_eq_true rfl) (L2 := [some (.inr (.inr (40, 0))), some (.inl v1_10), some (.inr (.inl 0)), none, some (.inl 1), none]) rfl ?_
          have L69 : ∀ (N : Nat) (v2_30 : Int) (v4_31 : Int), ((1 ≤ v4_31 ∧ v4_31 ≤ 10000)) → (10001 - v4_31).toNat < N → G 69 [some (.inr (.inr (40, 0))), none, some (.inr (.inl v2_30)), none, some (.inl v4_31), none] [] 122 t23 := by
            intro N
            induction N with
            | zero => intro v2_30 v4_31 inv33 hm34; exact absurd hm34 (Nat.not_lt_zero _)
            | succ N ih32 =>
              intro v2_30 v4_31 inv33 hm34
              refine px_iload hG dX11_riseRank_69 rfl ?_
              refine px_aload_n hG dX11_riseRank_71 rfl ?_
              refine gi_40_3 hG dX11_riseRank_72 fl_X11_110 Rt23 (fun x35 ex35 lx35 ux35 => ?_)
              have ex35 : s0 40 0 3 = x35 := (Ff25 40 0 3 rfl).symm.trans ex35
              refine px_ic_gt hG dX11_riseRank_75 (tgt := 141) (by decide) ⟨by omega, by omega⟩ ⟨by omega, by omega⟩ (fun c36 => ?_) (fun c36 => ?_)
              · refine px_lload_n hG dX11_riseRank_141 rfl ?_
                have jj37 := Ff25 40 0 0 rfl
                have jj38 := Ff25 40 0 1 rfl
                have jj39 := Ff25 40 0 2 rfl
                have jj40 := Ff25 40 0 3 rfl
                exact px_lret (st := []) hG dX11_riseRank_142 rfl rfl (fun _ => by exact ⟨_, rfl, Rt23, Ff25⟩)
              · refine px_iload hG dX11_riseRank_78 rfl ?_
                refine px_iconst hG dX11_riseRank_80 ?_
                have J97_43 : ∀ (j42 : Int), (0 ≤ j42 ∧ j42 ≤ 10) → G 97 [some (.inr (.inr (40, 0))), none, some (.inr (.inl v2_30)), none, some (.inl v4_31), none] [.inl j42] 122 t23 := by
                  intro j42 inv44
                  refine px_istore hG dX11_riseRank_97 (Nat.le_of_ble_eq_true rfl) (L2 := [some (.inr (.inr (40, 0))), none, some (.inr (.inl v2_30)), none, some (.inl v4_31), some (.inl j42)]) rfl ?_
                  have L99 : ∀ (N : Nat) (v2_45 : Int) (v5_46 : Int), ((j42 ≤ v5_46 ∧ v5_46 ≤ 10000)) → (10001 - v5_46).toNat < N → G 99 [some (.inr (.inr (40, 0))), none, some (.inr (.inl v2_45)), none, some (.inl v4_31), some (.inl v5_46)] [] 122 t23 := by
                    intro N
                    induction N with
                    | zero => intro v2_45 v5_46 inv48 hm49; exact absurd hm49 (Nat.not_lt_zero _)
                    | succ N ih47 =>
                      intro v2_45 v5_46 inv48 hm49
                      refine px_iload hG dX11_riseRank_99 rfl ?_
                      refine px_aload_n hG dX11_riseRank_101 rfl ?_
                      refine gr_40_4 hG dX11_riseRank_102 fl_X11_13 Rt23 ?_
                      refine px_iload hG dX11_riseRank_105 rfl ?_
                      refine al_41 hG dX11_riseRank_107 Rt23 (by omega) (fun x50 ex50 lx50 ux50 => ?_)
                      refine px_ic_ge hG dX11_riseRank_108 (tgt := 135) (by decide) ⟨by omega, by omega⟩ ⟨by omega, by omega⟩ (fun c51 => ?_) (fun c51 => ?_)
                      · refine px_iinc hG dX11_riseRank_135 (Nat.le_of_ble_eq_true rfl) rfl (L2 := [some (.inr (.inr (40, 0))), none, some (.inr (.inl v2_45)), none, some (.inl (v4_31 + 1)), some (.inl v5_46)]) rfl ?_
                        refine px_goto hG dX11_riseRank_138 (tgt := 69) (by decide) ?_
                        refine px_weak hG (L2 := [some (.inr (.inr (40, 0))), none, some (.inr (.inl v2_45)), none, some (.inl (v4_31 + 1)), none]) ⟨Or.inr rfl, Or.inr rfl, Or.inr rfl, Or.inr rfl, Or.inr rfl, Or.inl rfl, trivial⟩ ?_
                        exact ih32 v2_45 (v4_31 + 1) (by omega) (by omega)
                      · refine px_lload_n hG dX11_riseRank_111 rfl ?_
                        refine px_aload_n hG dX11_riseRank_112 rfl ?_
                        refine gr_40_12 hG dX11_riseRank_113 fl_X11_39 Rt23 ?_
                        refine px_bipush hG dX11_riseRank_116 (by decide) ?_
                        refine px_iload hG dX11_riseRank_118 rfl ?_
                        refine px_iconst hG dX11_riseRank_120 ?_
                        refine px_iadd hG dX11_riseRank_121 ?_
                        refine px_imul hG dX11_riseRank_122 ?_
                        refine px_iload hG dX11_riseRank_123 rfl ?_
                        refine px_iadd hG dX11_riseRank_125 ?_
                        refine al_49 hG dX11_riseRank_126 (by omega) (fun z52 ez52 => ?_)
                        refine px_ladd hG dX11_riseRank_127 ?_
                        refine px_lstore_n hG dX11_riseRank_128 (Nat.le_of_ble_eq_true rfl) (L2 := [some (.inr (.inr (40, 0))), none, some (.inr (.inl (v2_45 + z52))), none, some (.inl v4_31), some (.inl v5_46)]) rfl ?_
                        refine px_iinc hG dX11_riseRank_129 (Nat.le_of_ble_eq_true rfl) rfl (L2 := [some (.inr (.inr (40, 0))), none, some (.inr (.inl (v2_45 + z52))), none, some (.inl v4_31), some (.inl (v5_46 + 1))]) rfl ?_
                        refine px_goto hG dX11_riseRank_132 (tgt := 99) (by decide) ?_
                        exact ih47 (v2_45 + z52) (v5_46 + 1) (by omega) (by omega)
                  exact L99 _ v2_30 j42 (by omega) (Nat.lt_succ_self _)
                refine px_ic_ne hG dX11_riseRank_81 (tgt := 88) (by decide) ⟨by omega, by omega⟩ ⟨by omega, by omega⟩ (fun c41 => ?_) (fun c41 => ?_)
                · refine px_aload_n hG dX11_riseRank_88 rfl ?_
                  refine gr_40_4 hG dX11_riseRank_89 fl_X11_13 Rt23 ?_
                  refine px_iload hG dX11_riseRank_92 rfl ?_
                  refine px_iconst hG dX11_riseRank_94 ?_
                  refine px_isub hG dX11_riseRank_95 ?_
                  refine al_41 hG dX11_riseRank_96 Rt23 (by omega) (fun x53 ex53 lx53 ux53 => ?_)
                  exact J97_43 x53 (by omega)
                · refine px_iconst hG dX11_riseRank_84 ?_
                  refine px_goto hG dX11_riseRank_85 (tgt := 97) (by decide) ?_
                  exact J97_43 1 (by omega)
          refine px_weak hG (L2 := [some (.inr (.inr (40, 0))), none, some (.inr (.inl 0)), none, some (.inl 1), none]) ⟨Or.inr rfl, Or.inl rfl, Or.inr rfl, Or.inr rfl, Or.inr rfl, Or.inr rfl, trivial⟩ ?_
          exact L69 _ 0 1 (by omega) (Nat.lt_succ_self _)
        · refine px_ldc2 hG dX11_riseRank_52 cn_X11_174 ?_
          show G 55 [some (.inr (.inr (40, 0))), some (.inl v1_10), none, none, none, none] [.inr (.inl (-2))] 122 t3
          have jj54 := Ff5 40 0 0 rfl
          have jj55 := Ff5 40 0 1 rfl
          have jj56 := Ff5 40 0 2 rfl
          have jj57 := Ff5 40 0 3 rfl
          exact px_lret (st := []) hG dX11_riseRank_55 rfl rfl (fun _ => by exact ⟨_, rfl, Rt3, Ff5⟩)
      refine px_ic_gt hG dX11_riseRank_12 (tgt := 48) (by decide) ⟨by omega, by omega⟩ ⟨by omega, by omega⟩ (fun c16 => ?_) (fun c16 => ?_)
      · refine px_weak hG (L2 := [some (.inr (.inr (40, 0))), some (.inl v1_10), none, none, none, none]) ⟨Or.inr rfl, Or.inr rfl, Or.inl rfl, Or.inr rfl, Or.inr rfl, Or.inr rfl, trivial⟩ ?_
        exact J48_17  (by omega)
      · refine px_iload_n hG dX11_riseRank_15 rfl ?_
        refine px_if_eq hG dX11_riseRank_16 (tgt := 40) (by decide) ⟨by omega, by omega⟩ (fun c58 => ?_) (fun c58 => ?_)
        · refine px_iconst hG dX11_riseRank_40 ?_
          refine px_istore_n hG dX11_riseRank_41 (Nat.le_of_ble_eq_true rfl) (L2 := [some (.inr (.inr (40, 0))), some (.inl 0), some (.inl v2_11), none, none, none]) rfl ?_
          refine px_iinc hG dX11_riseRank_42 (Nat.le_of_ble_eq_true rfl) rfl (L2 := [some (.inr (.inr (40, 0))), some (.inl 0), some (.inl (v2_11 + 1)), none, none, none]) rfl ?_
          refine px_goto hG dX11_riseRank_45 (tgt := 7) (by decide) ?_
          exact ih12 0 (v2_11 + 1) (⟨by omega, by omega⟩) (by omega)
        · refine px_aload_n hG dX11_riseRank_19 rfl ?_
          refine gr_40_4 hG dX11_riseRank_20 fl_X11_13 Rt3 ?_
          refine px_iload_n hG dX11_riseRank_23 rfl ?_
          refine al_41 hG dX11_riseRank_24 Rt3 (by omega) (fun x59 ex59 lx59 ux59 => ?_)
          refine px_aload_n hG dX11_riseRank_25 rfl ?_
          refine gr_40_4 hG dX11_riseRank_26 fl_X11_13 Rt3 ?_
          refine px_iload_n hG dX11_riseRank_29 rfl ?_
          refine px_iconst hG dX11_riseRank_30 ?_
          refine px_isub hG dX11_riseRank_31 ?_
          refine al_41 hG dX11_riseRank_32 Rt3 (by omega) (fun x60 ex60 lx60 ux60 => ?_)
          refine px_ic_lt hG dX11_riseRank_33 (tgt := 40) (by decide) ⟨by omega, by omega⟩ ⟨by omega, by omega⟩ (fun c61 => ?_) (fun c61 => ?_)
          · refine px_iconst hG dX11_riseRank_40 ?_
            refine px_istore_n hG dX11_riseRank_41 (Nat.le_of_ble_eq_true rfl) (L2 := [some (.inr (.inr (40, 0))), some (.inl 0), some (.inl v2_11), none, none, none]) rfl ?_
            refine px_iinc hG dX11_riseRank_42 (Nat.le_of_ble_eq_true rfl) rfl (L2 := [some (.inr (.inr (40, 0))), some (.inl 0), some (.inl (v2_11 + 1)), none, none, none]) rfl ?_
            refine px_goto hG dX11_riseRank_45 (tgt := 7) (by decide) ?_
            exact ih12 0 (v2_11 + 1) (⟨by omega, by omega⟩) (by omega)
          · refine px_iconst hG dX11_riseRank_36 ?_
            refine px_goto hG dX11_riseRank_37 (tgt := 41) (by decide) ?_
            refine px_istore_n hG dX11_riseRank_41 (Nat.le_of_ble_eq_true rfl) (L2 := [some (.inr (.inr (40, 0))), some (.inl 1), some (.inl v2_11), none, none, none]) rfl ?_
            refine px_iinc hG dX11_riseRank_42 (Nat.le_of_ble_eq_true rfl) rfl (L2 := [some (.inr (.inr (40, 0))), some (.inl 1), some (.inl (v2_11 + 1)), none, none, none]) rfl ?_
            refine px_goto hG dX11_riseRank_45 (tgt := 7) (by decide) ?_
            exact ih12 1 (v2_11 + 1) (⟨by omega, by omega⟩) (by omega)
  exact L7 _ x4 2 (⟨by omega, by omega⟩) (Nat.lt_succ_self _))
def pre_X11_isFull (as : List pm_V) (n : Nat) (σ : pm_H) : Prop := as = [.inr (.inr (40, 0))] ∧ n = 122 ∧ pm_Rng σ ∧ (pm_J2 σ)
def po_X11_isFull (as : List pm_V) (_ : Nat) (σ : pm_H) (r : Option pm_V) (τ : pm_H) : Prop := as = [.inr (.inr (40, 0))] → ∃ v : Int, r = some (.inl v) ∧ pm_Rng τ ∧ pm_Fr [(43, none), (44, none)] σ τ ∧ ((v = 0 ∨ v = 1) ∧ (v = 1 → σ 40 0 3 = σ 40 0 1 ∧ pm_pl σ ∧ (∀ p : Int, 0 ≤ p → p ≤ σ 40 0 1 → pm_gt (σ 41 0) p (σ 40 0 3).toNat ≤ σ 40 0 1 - p)))
set_option maxRecDepth 20000 in
set_option maxHeartbeats 4000000 in
theorem ct_X11_isFull : pm_Ct yX11_isFull cX11_isFull 1 (some .boolean) 4 0 pre_X11_isFull po_X11_isFull := pm_sound (ini := false) (by decide +kernel) pk_X11_isFull (fun h => absurd h (by decide)) (by
  rintro as n s0 ⟨rfl, rfl, R0, hpre⟩
  refine ⟨by decide, Nat.le_of_ble_eq_true rfl, fun G hG => ?_⟩
  have hG : pm_Rules (RX11, 4, 122, cX11_isFull, -1, (fun _ => 0), false, (some .boolean), po_X11_isFull [.inr (.inr (40, 0))] 122 s0) G := hG
  show G 0 [some (.inr (.inr (40, 0)))] [] 122 s0
  have B0 := pb_40_0 R0
  have B1 := pb_40_1 R0
  have B2 := pb_40_2 R0
  have B3 := pb_40_3 R0
  have J2 := hpre
  have JK := J2.1
  have JW := J2.2
  refine px_aload_n hG dX11_isFull_0 rfl ?_
  refine gi_40_3 hG dX11_isFull_1 fl_X11_110 R0 (fun x1 ex1 lx1 ux1 => ?_)
  refine px_aload_n hG dX11_isFull_4 rfl ?_
  refine gi_40_1 hG dX11_isFull_5 fl_X11_7 R0 (fun x2 ex2 lx2 ux2 => ?_)
  refine px_ic_ne hG dX11_isFull_8 (tgt := 22) (by decide) ⟨by omega, by omega⟩ ⟨by omega, by omega⟩ (fun c3 => ?_) (fun c3 => ?_)
  · refine px_iconst hG dX11_isFull_22 ?_
    exact px_zret (st := []) hG dX11_isFull_23 rfl (by omega) rfl (fun _ => by exact ⟨_, rfl, R0, pm_Fr_rf, by first | exact ⟨by omega, fun _ => ⟨by omega, WE.2 (by omega)⟩⟩ | exact ⟨by omega, fun h => by omega⟩⟩)
  · refine px_aload_n hG dX11_isFull_11 rfl ?_
    refine jv0 hG dX11_isFull_12 ct_X11_isWell lk_X11_167 ⟨rfl, rfl⟩ (by decide) ⟨Nat.le_of_ble_eq_true rfl, Nat.le_of_ble_eq_true rfl, Nat.le_of_ble_eq_true rfl⟩ (Nat.le_of_ble_eq_true rfl) ⟨rfl, rfl, R0, J2⟩ (fun r4 t6 pr4 => ?_)
    obtain ⟨x7, rfl, Rt6, Ft6, br4⟩ := pr4 rfl
    have Ff8 := pm_Fr_mono Ft6 (M := [(43, none), (44, none)]) rfl
    have jj9 := Ft6 40 0 0 rfl
    have jj10 := Ft6 40 0 1 rfl
    have jj11 := Ft6 40 0 2 rfl
    have jj12 := Ft6 40 0 3 rfl
    have k13 : t6 40 0 3 = x1 := (Ft6 40 0 3 rfl).trans ex1
    have k14 : t6 40 0 1 = x2 := (Ft6 40 0 1 rfl).trans ex2
    show G 15 [some (.inr (.inr (40, 0)))] [.inl x7] 122 t6
    have WE := br4
    refine px_if_eq hG dX11_isFull_15 (tgt := 22) (by decide) ⟨by omega, by omega⟩ (fun c15 => ?_) (fun c15 => ?_)
    · refine px_iconst hG dX11_isFull_22 ?_
      have jj16 := Ff8 40 0 0 rfl
      have jj17 := Ff8 40 0 1 rfl
      have jj18 := Ff8 40 0 2 rfl
      have jj19 := Ff8 40 0 3 rfl
      exact px_zret (st := []) hG dX11_isFull_23 rfl (by omega) rfl (fun _ => by exact ⟨_, rfl, Rt6, Ff8, by first | exact ⟨by omega, fun _ => ⟨by omega, WE.2 (by omega)⟩⟩ | exact ⟨by omega, fun h => by omega⟩⟩)
    · refine px_iconst hG dX11_isFull_18 ?_
      refine px_goto hG dX11_isFull_19 (tgt := 23) (by decide) ?_
      have jj20 := Ff8 40 0 0 rfl
      have jj21 := Ff8 40 0 1 rfl
      have jj22 := Ff8 40 0 2 rfl
      have jj23 := Ff8 40 0 3 rfl
      exact px_zret (st := []) hG dX11_isFull_23 rfl (by omega) rfl (fun _ => by exact ⟨_, rfl, Rt6, Ff8, by first | exact ⟨by omega, fun _ => ⟨by omega, WE.2 (by omega)⟩⟩ | exact ⟨by omega, fun h => by omega⟩⟩))
def pre_X11_wishUpTo (as : List pm_V) (n : Nat) (σ : pm_H) : Prop := ∃ aa : Int, as = [.inr (.inr (40, 0)), .inl aa] ∧ n = 122 ∧ pm_Rng σ ∧ ((pm_in aa) ∧ pm_J2 σ)
def po_X11_wishUpTo (as : List pm_V) (_ : Nat) (σ : pm_H) (r : Option pm_V) (τ : pm_H) : Prop := ∀ aa : Int, as = [.inr (.inr (40, 0)), .inl aa] → ∃ v : Int, r = some (.inl v) ∧ σ = τ ∧ (0 ≤ v ∧ v ≤ 10)
set_option maxRecDepth 20000 in
set_option maxHeartbeats 4000000 in
theorem ct_X11_wishUpTo : pm_Ct yX11_wishUpTo cX11_wishUpTo 4 (some .int) 0 0 pre_X11_wishUpTo po_X11_wishUpTo := pm_sound (ini := false) (by decide +kernel) pk_X11_wishUpTo (fun h => absurd h (by decide)) (by
  rintro as n s0 ⟨aa, rfl, rfl, R0, hpre⟩
  refine ⟨by decide, Nat.le_of_ble_eq_true rfl, fun G hG => ?_⟩
  have hG : pm_Rules (RX11, 0, 122, cX11_wishUpTo, -1, (fun _ => 0), false, (some .int), po_X11_wishUpTo [.inr (.inr (40, 0)), .inl aa] 122 s0) G := hG
  show G 0 [some (.inr (.inr (40, 0))), some (.inl aa), none, none] [] 122 s0
  have B0 := pb_40_0 R0
  have B1 := pb_40_1 R0
  have B2 := pb_40_2 R0
  have B3 := pb_40_3 R0
  have J2 := hpre.2
  have HP := hpre.1
  have JK := J2.1
  have JW := J2.2
  refine px_iconst hG dX11_wishUpTo_0 ?_
  refine px_istore_n hG dX11_wishUpTo_1 (Nat.le_of_ble_eq_true rfl) (L2 := [some (.inr (.inr (40, 0))), some (.inl aa), some (.inl 0), none]) rfl ?_
  refine px_iconst hG dX11_wishUpTo_2 ?_
  refine px_istore_n hG dX11_wishUpTo_3 (Nat.le_of_ble_eq_true rfl) (L2 := [some (.inr (.inr (40, 0))), some (.inl aa), some (.inl 0), some (.inl 1)]) rfl ?_
  have L4 : ∀ (N : Nat) (v2_1 : Int) (v3_2 : Int), ((1 ≤ v3_2 ∧ v3_2 ≤ 10000) ∧ (0 ≤ v2_1 ∧ v2_1 ≤ v3_2 - 1 ∧ v3_2 ≤ 11)) → (10001 - v3_2).toNat < N → G 4 [some (.inr (.inr (40, 0))), some (.inl aa), some (.inl v2_1), some (.inl v3_2)] [] 122 s0 := by
    intro N
    induction N with
    | zero => intro v2_1 v3_2 inv4 hm5; exact absurd hm5 (Nat.not_lt_zero _)
    | succ N ih3 =>
      intro v2_1 v3_2 inv4 hm5
      refine px_iload_n hG dX11_wishUpTo_4 rfl ?_
      refine px_aload_n hG dX11_wishUpTo_5 rfl ?_
      refine gi_40_3 hG dX11_wishUpTo_6 fl_X11_110 R0 (fun x6 ex6 lx6 ux6 => ?_)
      refine px_ic_gt hG dX11_wishUpTo_9 (tgt := 36) (by decide) ⟨by omega, by omega⟩ ⟨by omega, by omega⟩ (fun c7 => ?_) (fun c7 => ?_)
      · refine px_iload_n hG dX11_wishUpTo_36 rfl ?_
        exact px_iret (st := []) hG dX11_wishUpTo_37 rfl rfl (fun aa_1 ee => by cases ee; exact ⟨_, rfl, rfl, by omega⟩)
      · refine px_iload_n hG dX11_wishUpTo_12 rfl ?_
        refine px_aload_n hG dX11_wishUpTo_13 rfl ?_
        refine gr_40_4 hG dX11_wishUpTo_14 fl_X11_13 R0 ?_
        refine px_iload_n hG dX11_wishUpTo_17 rfl ?_
        refine al_41 hG dX11_wishUpTo_18 R0 (by omega) (fun x8 ex8 lx8 ux8 => ?_)
        refine px_iload_n hG dX11_wishUpTo_19 rfl ?_
        refine px_ic_gt hG dX11_wishUpTo_20 (tgt := 27) (by decide) ⟨by omega, by omega⟩ ⟨by omega, by omega⟩ (fun c9 => ?_) (fun c9 => ?_)
        · refine px_iconst hG dX11_wishUpTo_27 ?_
          refine px_iadd hG dX11_wishUpTo_28 ?_
          refine px_istore_n hG dX11_wishUpTo_29 (Nat.le_of_ble_eq_true rfl) (L2 := [some (.inr (.inr (40, 0))), some (.inl aa), some (.inl (v2_1 + 0)), some (.inl v3_2)]) rfl ?_
          refine px_iinc hG dX11_wishUpTo_30 (Nat.le_of_ble_eq_true rfl) rfl (L2 := [some (.inr (.inr (40, 0))), some (.inl aa), some (.inl (v2_1 + 0)), some (.inl (v3_2 + 1))]) rfl ?_
          refine px_goto hG dX11_wishUpTo_33 (tgt := 4) (by decide) ?_
          exact ih3 (v2_1 + 0) (v3_2 + 1) (⟨by omega, by omega⟩) (by omega)
        · refine px_iconst hG dX11_wishUpTo_23 ?_
          refine px_goto hG dX11_wishUpTo_24 (tgt := 28) (by decide) ?_
          refine px_iadd hG dX11_wishUpTo_28 ?_
          refine px_istore_n hG dX11_wishUpTo_29 (Nat.le_of_ble_eq_true rfl) (L2 := [some (.inr (.inr (40, 0))), some (.inl aa), some (.inl (v2_1 + 1)), some (.inl v3_2)]) rfl ?_
          refine px_iinc hG dX11_wishUpTo_30 (Nat.le_of_ble_eq_true rfl) rfl (L2 := [some (.inr (.inr (40, 0))), some (.inl aa), some (.inl (v2_1 + 1)), some (.inl (v3_2 + 1))]) rfl ?_
          refine px_goto hG dX11_wishUpTo_33 (tgt := 4) (by decide) ?_
          exact ih3 (v2_1 + 1) (v3_2 + 1) (⟨by omega, by omega⟩) (by omega)
  exact L4 _ 0 1 (⟨by omega, by omega⟩) (Nat.lt_succ_self _))
def pre_X11_cuts (as : List pm_V) (n : Nat) (σ : pm_H) : Prop := as = [.inr (.inr (40, 0))] ∧ n = 122 ∧ pm_Rng σ ∧ (pm_J2 σ)
def po_X11_cuts (as : List pm_V) (_ : Nat) (σ : pm_H) (r : Option pm_V) (τ : pm_H) : Prop := as = [.inr (.inr (40, 0))] → ∃ v : Int, r = some (.inl v) ∧ pm_Rng τ ∧ pm_Fr [(43, none), (44, none)] σ τ
set_option maxRecDepth 20000 in
set_option maxHeartbeats 4000000 in
theorem ct_X11_cuts : pm_Ct yX11_cuts cX11_cuts 3 (some .int) 5 0 pre_X11_cuts po_X11_cuts := pm_sound (ini := false) (by decide +kernel) pk_X11_cuts (fun h => absurd h (by decide)) (by
  rintro as n s0 ⟨rfl, rfl, R0, hpre⟩
  refine ⟨by decide, Nat.le_of_ble_eq_true rfl, fun G hG => ?_⟩
  have hG : pm_Rules (RX11, 5, 122, cX11_cuts, -1, (fun _ => 0), false, (some .int), po_X11_cuts [.inr (.inr (40, 0))] 122 s0) G := hG
  show G 0 [some (.inr (.inr (40, 0))), none, none] [] 122 s0
  have B0 := pb_40_0 R0
  have B1 := pb_40_1 R0
  have B2 := pb_40_2 R0
  have B3 := pb_40_3 R0
  have J2 := hpre
  have JK := J2.1
  have JW := J2.2
  refine px_aload_n hG dX11_cuts_0 rfl ?_
  refine jv0 hG dX11_cuts_1 ct_X11_isFull lk_X11_189 ⟨rfl, rfl⟩ (by decide) ⟨Nat.le_of_ble_eq_true rfl, Nat.le_of_ble_eq_true rfl, Nat.le_of_ble_eq_true rfl⟩ (Nat.le_of_ble_eq_true rfl) ⟨rfl, rfl, R0, J2⟩ (fun r1 t3 pr1 => ?_)
  obtain ⟨x4, rfl, Rt3, Ft3, br1⟩ := pr1 rfl
  have Ff5 := pm_Fr_mono Ft3 (M := [(43, none), (44, none)]) rfl
  have jj6 := Ft3 40 0 0 rfl
  have jj7 := Ft3 40 0 1 rfl
  have jj8 := Ft3 40 0 2 rfl
  have jj9 := Ft3 40 0 3 rfl
  show G 4 [some (.inr (.inr (40, 0))), none, none] [.inl x4] 122 t3
  refine px_if_ne hG dX11_cuts_4 (tgt := 10) (by decide) ⟨by omega, by omega⟩ (fun c10 => ?_) (fun c10 => ?_)
  · refine px_iconst hG dX11_cuts_10 ?_
    refine px_istore_n hG dX11_cuts_11 (Nat.le_of_ble_eq_true rfl) (L2 := [some (.inr (.inr (40, 0))), some (.inl 0), none]) rfl ?_
    refine px_iconst hG dX11_cuts_12 ?_
    refine px_istore_n hG dX11_cuts_13 (Nat.le_of_ble_eq_true rfl) (L2 := [some (.inr (.inr (40, 0))), some (.inl 0), some (.inl 1)]) rfl ?_
    have L14 : ∀ (N : Nat) (v1_11 : Int) (v2_12 : Int), ((1 ≤ v2_12 ∧ v2_12 ≤ 10000)) → (10001 - v2_12).toNat < N → G 14 [some (.inr (.inr (40, 0))), some (.inl v1_11), some (.inl v2_12)] [] 122 t3 := by
      intro N
      induction N with
      | zero => intro v1_11 v2_12 inv14 hm15; exact absurd hm15 (Nat.not_lt_zero _)
      | succ N ih13 =>
        intro v1_11 v2_12 inv14 hm15
        refine px_iload_n hG dX11_cuts_14 rfl ?_
        refine px_aload_n hG dX11_cuts_15 rfl ?_
        refine gi_40_1 hG dX11_cuts_16 fl_X11_7 Rt3 (fun x16 ex16 lx16 ux16 => ?_)
        have ex16 : s0 40 0 1 = x16 := (Ff5 40 0 1 rfl).symm.trans ex16
        refine px_ic_ge hG dX11_cuts_19 (tgt := 47) (by decide) ⟨by omega, by omega⟩ ⟨by omega, by omega⟩ (fun c17 => ?_) (fun c17 => ?_)
        · refine px_iload_n hG dX11_cuts_47 rfl ?_
          have jj18 := Ff5 40 0 0 rfl
          have jj19 := Ff5 40 0 1 rfl
          have jj20 := Ff5 40 0 2 rfl
          have jj21 := Ff5 40 0 3 rfl
          exact px_iret (st := []) hG dX11_cuts_48 rfl rfl (fun _ => by exact ⟨_, rfl, Rt3, Ff5⟩)
        · refine px_iload_n hG dX11_cuts_22 rfl ?_
          refine px_aload_n hG dX11_cuts_23 rfl ?_
          refine px_iload_n hG dX11_cuts_24 rfl ?_
          refine jv1 hG dX11_cuts_25 ct_X11_wishUpTo lk_X11_192 ⟨rfl, rfl⟩ (by decide) ⟨Nat.le_of_ble_eq_true rfl, Nat.le_of_ble_eq_true rfl, Nat.le_of_ble_eq_true rfl⟩ (Nat.le_of_ble_eq_true rfl) ⟨v2_12, rfl, rfl, Rt3, ⟨by omega, (pm_J2_fr Ff5 rfl J2)⟩⟩ (fun r22 t23 pr22 => ?_)
          obtain ⟨x24, rfl, rfl, br22⟩ := pr22 _ rfl
          show G 28 [some (.inr (.inr (40, 0))), some (.inl v1_11), some (.inl v2_12)] [.inl x24, .inl v1_11] 122 t3
          refine px_iload_n hG dX11_cuts_28 rfl ?_
          refine px_ic_ne hG dX11_cuts_29 (tgt := 38) (by decide) ⟨by omega, by omega⟩ ⟨by omega, by omega⟩ (fun c25 => ?_) (fun c25 => ?_)
          · refine px_iconst hG dX11_cuts_38 ?_
            refine px_ior hG dX11_cuts_39 ?_
            generalize hx26 : pm_ior v1_11 0 = x26
            have bx26 := pm_ior_in v1_11 0 x26 hx26
            refine px_istore_n hG dX11_cuts_40 (Nat.le_of_ble_eq_true rfl) (L2 := [some (.inr (.inr (40, 0))), some (.inl x26), some (.inl v2_12)]) rfl ?_
            refine px_iinc hG dX11_cuts_41 (Nat.le_of_ble_eq_true rfl) rfl (L2 := [some (.inr (.inr (40, 0))), some (.inl x26), some (.inl (v2_12 + 1))]) rfl ?_
            refine px_goto hG dX11_cuts_44 (tgt := 14) (by decide) ?_
            exact ih13 x26 (v2_12 + 1) (by omega) (by omega)
          · refine px_iconst hG dX11_cuts_32 ?_
            refine px_iload_n hG dX11_cuts_33 rfl ?_
            refine px_ishl hG dX11_cuts_34 ?_
            generalize hx27 : pm_ishl 1 v2_12 = x27
            have bx27 := pm_ishl_in 1 v2_12 x27 hx27
            refine px_goto hG dX11_cuts_35 (tgt := 39) (by decide) ?_
            refine px_ior hG dX11_cuts_39 ?_
            generalize hx28 : pm_ior v1_11 x27 = x28
            have bx28 := pm_ior_in v1_11 x27 x28 hx28
            refine px_istore_n hG dX11_cuts_40 (Nat.le_of_ble_eq_true rfl) (L2 := [some (.inr (.inr (40, 0))), some (.inl x28), some (.inl v2_12)]) rfl ?_
            refine px_iinc hG dX11_cuts_41 (Nat.le_of_ble_eq_true rfl) rfl (L2 := [some (.inr (.inr (40, 0))), some (.inl x28), some (.inl (v2_12 + 1))]) rfl ?_
            refine px_goto hG dX11_cuts_44 (tgt := 14) (by decide) ?_
            exact ih13 x28 (v2_12 + 1) (by omega) (by omega)
    exact L14 _ 0 1 (by omega) (Nat.lt_succ_self _)
  · refine px_bipush hG dX11_cuts_7 (by decide) ?_
    have jj29 := Ff5 40 0 0 rfl
    have jj30 := Ff5 40 0 1 rfl
    have jj31 := Ff5 40 0 2 rfl
    have jj32 := Ff5 40 0 3 rfl
    exact px_iret (st := []) hG dX11_cuts_9 rfl rfl (fun _ => by exact ⟨_, rfl, Rt3, Ff5⟩))
def pre_X11_primesOf (as : List pm_V) (n : Nat) (σ : pm_H) : Prop := ∃ pl : Int, as = [.inl pl] ∧ n = 122 ∧ pm_Rng σ ∧ (1 ≤ pl ∧ pl ≤ 10)
def po_X11_primesOf (as : List pm_V) (_ : Nat) (σ : pm_H) (r : Option pm_V) (τ : pm_H) : Prop := ∀ pl : Int, as = [.inl pl] → ∃ v : Int, r = some (.inr (.inl v)) ∧ σ = τ
set_option maxRecDepth 20000 in
set_option maxHeartbeats 4000000 in
theorem ct_X11_primesOf : pm_Ct yX11_primesOf cX11_primesOf 1 (some .long) 1 0 pre_X11_primesOf po_X11_primesOf := pm_sound (ini := false) (by decide +kernel) pk_X11_primesOf (fun h => absurd h (by decide)) (by
  rintro as n s0 ⟨pl, rfl, rfl, R0, hpre⟩
  refine ⟨by decide, Nat.le_of_ble_eq_true rfl, fun G hG => ?_⟩
  have hG : pm_Rules (RX11, 1, 122, cX11_primesOf, -1, (fun _ => 0), false, (some .long), po_X11_primesOf [.inl pl] 122 s0) G := hG
  show G 0 [some (.inl pl)] [] 122 s0
  refine px_iload_n hG dX11_primesOf_0 rfl ?_
  refine px_iconst hG dX11_primesOf_1 ?_
  refine px_isub hG dX11_primesOf_2 ?_
  refine px_i2l hG dX11_primesOf_3 ⟨by omega, by omega⟩ ?_
  refine px_iload_n hG dX11_primesOf_4 rfl ?_
  refine px_iconst hG dX11_primesOf_5 ?_
  refine px_isub hG dX11_primesOf_6 ?_
  refine js2 hG dX11_primesOf_7 ct_X11_power lk_X11_195 ⟨Nat.le_of_ble_eq_true rfl, Nat.le_of_ble_eq_true rfl, Nat.le_of_ble_eq_true rfl⟩ (Nat.le_of_ble_eq_true rfl) ⟨(pl - 1), (pl - 1), rfl, rfl, R0, by omega⟩ (fun r1 t2 pr1 => ?_)
  obtain ⟨z3, rfl, rfl⟩ := pr1 _ _ rfl
  show G 10 [some (.inl pl)] [.inr (.inl z3)] 122 s0
  exact px_lret (st := []) hG dX11_primesOf_10 rfl rfl (fun pl_1 ee => by cases ee; exact ⟨_, rfl, rfl⟩))
def pre_X11_primes (as : List pm_V) (n : Nat) (σ : pm_H) : Prop := as = [.inr (.inr (40, 0))] ∧ n = 122 ∧ pm_Rng σ ∧ (pm_J2 σ)
def po_X11_primes (as : List pm_V) (_ : Nat) (σ : pm_H) (r : Option pm_V) (τ : pm_H) : Prop := as = [.inr (.inr (40, 0))] → ∃ v : Int, r = some (.inr (.inl v)) ∧ σ = τ
set_option maxRecDepth 20000 in
set_option maxHeartbeats 4000000 in
theorem ct_X11_primes : pm_Ct yX11_primes cX11_primes 1 (some .long) 2 0 pre_X11_primes po_X11_primes := pm_sound (ini := false) (by decide +kernel) pk_X11_primes (fun h => absurd h (by decide)) (by
  rintro as n s0 ⟨rfl, rfl, R0, hpre⟩
  refine ⟨by decide, Nat.le_of_ble_eq_true rfl, fun G hG => ?_⟩
  have hG : pm_Rules (RX11, 2, 122, cX11_primes, -1, (fun _ => 0), false, (some .long), po_X11_primes [.inr (.inr (40, 0))] 122 s0) G := hG
  show G 0 [some (.inr (.inr (40, 0)))] [] 122 s0
  have B0 := pb_40_0 R0
  have B1 := pb_40_1 R0
  have B2 := pb_40_2 R0
  have B3 := pb_40_3 R0
  have J2 := hpre
  have JK := J2.1
  have JW := J2.2
  refine px_aload_n hG dX11_primes_0 rfl ?_
  refine gi_40_1 hG dX11_primes_1 fl_X11_7 R0 (fun x1 ex1 lx1 ux1 => ?_)
  refine js1 hG dX11_primes_4 ct_X11_primesOf lk_X11_199 ⟨Nat.le_of_ble_eq_true rfl, Nat.le_of_ble_eq_true rfl, Nat.le_of_ble_eq_true rfl⟩ (Nat.le_of_ble_eq_true rfl) ⟨x1, rfl, rfl, R0, by omega⟩ (fun r2 t3 pr2 => ?_)
  obtain ⟨z4, rfl, rfl⟩ := pr2 _ rfl
  show G 7 [some (.inr (.inr (40, 0)))] [.inr (.inl z4)] 122 s0
  exact px_lret (st := []) hG dX11_primes_7 rfl rfl (fun _ => by exact ⟨_, rfl, rfl⟩))
def pre_X11_findTree (as : List pm_V) (n : Nat) (σ : pm_H) : Prop := as = [.inr (.inr (40, 0))] ∧ n = 122 ∧ pm_Rng σ ∧ (pm_J2 σ)
def po_X11_findTree (as : List pm_V) (_ : Nat) (σ : pm_H) (r : Option pm_V) (τ : pm_H) : Prop := as = [.inr (.inr (40, 0))] → r = none ∧ pm_Rng τ ∧ pm_Fr [(50, none), (51, none), (52, none)] σ τ
set_option maxRecDepth 20000 in
set_option maxHeartbeats 4000000 in
theorem ct_X11_findTree : pm_Ct yX11_findTree cX11_findTree 4 none 0 0 pre_X11_findTree po_X11_findTree := pm_sound (ini := false) (by decide +kernel) pk_X11_findTree (fun h => absurd h (by decide)) (by
  rintro as n s0 ⟨rfl, rfl, R0, hpre⟩
  refine ⟨by decide, Nat.le_of_ble_eq_true rfl, fun G hG => ?_⟩
  have hG : pm_Rules (RX11, 0, 122, cX11_findTree, -1, (fun _ => 0), false, none, po_X11_findTree [.inr (.inr (40, 0))] 122 s0) G := hG
  show G 0 [some (.inr (.inr (40, 0))), none, none, none] [] 122 s0
  have B0 := pb_40_0 R0
  have B1 := pb_40_1 R0
  have B2 := pb_40_2 R0
  have B3 := pb_40_3 R0
  have J2 := hpre
  have JK := J2.1
  have JW := J2.2
  refine px_iconst hG dX11_findTree_0 ?_
  refine px_istore_n hG dX11_findTree_1 (Nat.le_of_ble_eq_true rfl) (L2 := [some (.inr (.inr (40, 0))), some (.inl 1), none, none]) rfl ?_
  refine px_aload_n hG dX11_findTree_2 rfl ?_
  refine gr_40_14 hG dX11_findTree_3 fl_X11_45 R0 ?_
  refine px_iconst hG dX11_findTree_6 ?_
  refine px_iconst hG dX11_findTree_7 ?_
  refine as_51 hG dX11_findTree_8 R0 (by omega) (by omega) (fun s1 qs1 Rs1 => ?_)
  have Fs1 := pm_Fr_up ((pm_Fr_rf : pm_Fr [(50, none), (51, none), (52, none)] s0 s0)) qs1 (M := [(50, none), (51, none), (52, none)]) rfl
  have jj2 := pm_nec qs1 (c' := 40) (r' := 0) (i' := 0) (by decide)
  have jj3 := pm_nec qs1 (c' := 40) (r' := 0) (i' := 1) (by decide)
  have jj4 := pm_nec qs1 (c' := 40) (r' := 0) (i' := 2) (by decide)
  have jj5 := pm_nec qs1 (c' := 40) (r' := 0) (i' := 3) (by decide)
  refine px_aload_n hG dX11_findTree_9 rfl ?_
  refine gr_40_15 hG dX11_findTree_10 fl_X11_48 Rs1 ?_
  refine px_iconst hG dX11_findTree_13 ?_
  refine px_iconst hG dX11_findTree_14 ?_
  refine as_52 hG dX11_findTree_15 Rs1 (by omega) (by omega) (fun s6 qs6 Rs6 => ?_)
  have Fs6 := pm_Fr_up (Fs1) qs6 (M := [(50, none), (51, none), (52, none)]) rfl
  have jj7 := pm_nec qs6 (c' := 40) (r' := 0) (i' := 0) (by decide)
  have jj8 := pm_nec qs6 (c' := 40) (r' := 0) (i' := 1) (by decide)
  have jj9 := pm_nec qs6 (c' := 40) (r' := 0) (i' := 2) (by decide)
  have jj10 := pm_nec qs6 (c' := 40) (r' := 0) (i' := 3) (by decide)
  refine px_iconst hG dX11_findTree_16 ?_
  refine px_istore_n hG dX11_findTree_17 (Nat.le_of_ble_eq_true rfl) (L2 := [some (.inr (.inr (40, 0))), some (.inl 1), some (.inl 1), none]) rfl ?_
  have L18 : ∀ (N : Nat) (v1_11 : Int) (v2_12 : Int) (s13 : pm_H), pm_Rng s13 → pm_Fr [(50, none), (51, none), (52, none)] s0 s13 → ((1 ≤ v1_11 ∧ v1_11 ≤ 10000) ∧ (1 ≤ v2_12 ∧ v2_12 ≤ 10000) ∧ (v1_11 = 1 + pm_sc (s0 41 0) v2_12 1 (s0 40 0 3).toNat ∧ 1 ≤ v2_12)) → (10001 - v2_12).toNat < N → G 18 [some (.inr (.inr (40, 0))), some (.inl v1_11), some (.inl v2_12), none] [] 122 s13 := by
    intro N
    induction N with
    | zero => intro v1_11 v2_12 s13 R14 F15 inv17 hm18; exact absurd hm18 (Nat.not_lt_zero _)
    | succ N ih16 =>
      intro v1_11 v2_12 s13 R14 F15 inv17 hm18
      have jj19 := F15 40 0 0 rfl
      have jj20 := F15 40 0 1 rfl
      have jj21 := F15 40 0 2 rfl
      have jj22 := F15 40 0 3 rfl
      have W := inv17.2.2
      have WB := pm_sc_le (s0 41 0) v2_12 1 (s0 40 0 3).toNat
      refine px_iload_n hG dX11_findTree_18 rfl ?_
      refine px_aload_n hG dX11_findTree_19 rfl ?_
      refine gi_40_1 hG dX11_findTree_20 fl_X11_7 R14 (fun x23 ex23 lx23 ux23 => ?_)
      have ex23 : s0 40 0 1 = x23 := (F15 40 0 1 rfl).symm.trans ex23
      refine px_ic_gt hG dX11_findTree_23 (tgt := 89) (by decide) ⟨by omega, by omega⟩ ⟨by omega, by omega⟩ (fun c24 => ?_) (fun c24 => ?_)
      · have jj25 := F15 40 0 0 rfl
        have jj26 := F15 40 0 1 rfl
        have jj27 := F15 40 0 2 rfl
        have jj28 := F15 40 0 3 rfl
        exact px_vret (st := []) hG dX11_findTree_89 rfl rfl (fun _ => by exact ⟨rfl, R14, F15⟩)
      · refine px_iconst hG dX11_findTree_26 ?_
        refine px_istore_n hG dX11_findTree_27 (Nat.le_of_ble_eq_true rfl) (L2 := [some (.inr (.inr (40, 0))), some (.inl v1_11), some (.inl v2_12), some (.inl 1)]) rfl ?_
        have L28 : ∀ (N : Nat) (v1_29 : Int) (v3_30 : Int) (s31 : pm_H), pm_Rng s31 → pm_Fr [(50, none), (51, none), (52, none)] s0 s31 → ((v1_11 ≤ v1_29 ∧ v1_29 ≤ 10000) ∧ (1 ≤ v3_30 ∧ v3_30 ≤ 10000) ∧ (v1_29 = 1 + pm_sc (s0 41 0) v2_12 v3_30 (s0 40 0 3).toNat)) → (10001 - v3_30).toNat < N → G 28 [some (.inr (.inr (40, 0))), some (.inl v1_29), some (.inl v2_12), some (.inl v3_30)] [] 122 s31 := by
          intro N
          induction N with
          | zero => intro v1_29 v3_30 s31 R32 F33 inv35 hm36; exact absurd hm36 (Nat.not_lt_zero _)
          | succ N ih34 =>
            intro v1_29 v3_30 s31 R32 F33 inv35 hm36
            have jj37 := F33 40 0 0 rfl
            have jj38 := F33 40 0 1 rfl
            have jj39 := F33 40 0 2 rfl
            have jj40 := F33 40 0 3 rfl
            have U := inv35.2.2
            have UB := pm_sc_le (s0 41 0) v2_12 v3_30 (s0 40 0 3).toNat
            have UN := pm_sc_nn (s0 41 0) v2_12 v3_30 (s0 40 0 3).toNat
            refine px_iload_n hG dX11_findTree_28 rfl ?_
            refine px_aload_n hG dX11_findTree_29 rfl ?_
            refine gi_40_3 hG dX11_findTree_30 fl_X11_110 R32 (fun x41 ex41 lx41 ux41 => ?_)
            have ex41 : s0 40 0 3 = x41 := (F33 40 0 3 rfl).symm.trans ex41
            refine px_ic_gt hG dX11_findTree_33 (tgt := 83) (by decide) ⟨by omega, by omega⟩ ⟨by omega, by omega⟩ (fun c42 => ?_) (fun c42 => ?_)
            · have NX := pm_sc_nx (f := s0 41 0) (v := v2_12) (c := v3_30) (k := (s0 40 0 3).toNat) (by omega)
              refine px_iinc hG dX11_findTree_83 (Nat.le_of_ble_eq_true rfl) rfl (L2 := [some (.inr (.inr (40, 0))), some (.inl v1_29), some (.inl (v2_12 + 1)), some (.inl v3_30)]) rfl ?_
              refine px_goto hG dX11_findTree_86 (tgt := 18) (by decide) ?_
              refine px_weak hG (L2 := [some (.inr (.inr (40, 0))), some (.inl v1_29), some (.inl (v2_12 + 1)), none]) ⟨Or.inr rfl, Or.inr rfl, Or.inr rfl, Or.inl rfl, trivial⟩ ?_
              exact ih16 v1_29 (v2_12 + 1) s31 R32 F33 (⟨by omega, by omega, ⟨by omega, by omega⟩⟩) (by omega)
            · refine px_aload_n hG dX11_findTree_36 rfl ?_
              refine gr_40_4 hG dX11_findTree_37 fl_X11_13 R32 ?_
              refine px_iload_n hG dX11_findTree_40 rfl ?_
              refine al_41 hG dX11_findTree_41 R32 (by omega) (fun x43 ex43 lx43 ux43 => ?_)
              have X1 := (F33 41 0 v3_30 rfl).symm.trans ex43
              refine px_iload_n hG dX11_findTree_42 rfl ?_
              refine px_ic_ne hG dX11_findTree_43 (tgt := 77) (by decide) ⟨by omega, by omega⟩ ⟨by omega, by omega⟩ (fun c44 => ?_) (fun c44 => ?_)
              · refine px_iinc hG dX11_findTree_77 (Nat.le_of_ble_eq_true rfl) rfl (L2 := [some (.inr (.inr (40, 0))), some (.inl v1_29), some (.inl v2_12), some (.inl (v3_30 + 1))]) rfl ?_
                refine px_goto hG dX11_findTree_80 (tgt := 28) (by decide) ?_
                exact ih34 v1_29 (v3_30 + 1) s31 R32 F33 (⟨by omega, by omega, by first | omega | (rw [pm_sc_st (by omega)]; omega)⟩) (by omega)
              · have V := pm_sc_up (f := s0 41 0) (v := v2_12) (c := v3_30) (k := (s0 40 0 3).toNat) (by omega) (by omega) (by omega) (by omega)
                have VB := pm_sc_le (s0 41 0) v2_12 (v3_30 + 1) (s0 40 0 3).toNat
                refine px_aload_n hG dX11_findTree_46 rfl ?_
                refine gr_40_13 hG dX11_findTree_47 fl_X11_42 R32 ?_
                refine px_iload_n hG dX11_findTree_50 rfl ?_
                refine px_aload_n hG dX11_findTree_51 rfl ?_
                refine gr_40_14 hG dX11_findTree_52 fl_X11_45 R32 ?_
                refine px_iload_n hG dX11_findTree_55 rfl ?_
                refine px_iconst hG dX11_findTree_56 ?_
                refine px_isub hG dX11_findTree_57 ?_
                refine al_51 hG dX11_findTree_58 R32 (by omega) (fun x45 ex45 lx45 ux45 => ?_)
                refine as_50 hG dX11_findTree_59 R32 (by omega) (by omega) (fun s46 qs46 Rs46 => ?_)
                have Fs46 := pm_Fr_up (F33) qs46 (M := [(50, none), (51, none), (52, none)]) rfl
                have jj47 := pm_nec qs46 (c' := 40) (r' := 0) (i' := 0) (by decide)
                have jj48 := pm_nec qs46 (c' := 40) (r' := 0) (i' := 1) (by decide)
                have jj49 := pm_nec qs46 (c' := 40) (r' := 0) (i' := 2) (by decide)
                have jj50 := pm_nec qs46 (c' := 40) (r' := 0) (i' := 3) (by decide)
                refine px_aload_n hG dX11_findTree_60 rfl ?_
                refine gr_40_14 hG dX11_findTree_61 fl_X11_45 Rs46 ?_
                refine px_iload_n hG dX11_findTree_64 rfl ?_
                refine px_iload_n hG dX11_findTree_65 rfl ?_
                refine as_51 hG dX11_findTree_66 Rs46 (by omega) (by omega) (fun s51 qs51 Rs51 => ?_)
                have Fs51 := pm_Fr_up (Fs46) qs51 (M := [(50, none), (51, none), (52, none)]) rfl
                have jj52 := pm_nec qs51 (c' := 40) (r' := 0) (i' := 0) (by decide)
                have jj53 := pm_nec qs51 (c' := 40) (r' := 0) (i' := 1) (by decide)
                have jj54 := pm_nec qs51 (c' := 40) (r' := 0) (i' := 2) (by decide)
                have jj55 := pm_nec qs51 (c' := 40) (r' := 0) (i' := 3) (by decide)
                refine px_iinc hG dX11_findTree_67 (Nat.le_of_ble_eq_true rfl) rfl (L2 := [some (.inr (.inr (40, 0))), some (.inl (v1_29 + 1)), some (.inl v2_12), some (.inl v3_30)]) rfl ?_
                refine px_aload_n hG dX11_findTree_70 rfl ?_
                refine gr_40_15 hG dX11_findTree_71 fl_X11_48 Rs51 ?_
                refine px_iload_n hG dX11_findTree_74 rfl ?_
                refine px_iload_n hG dX11_findTree_75 rfl ?_
                refine as_52 hG dX11_findTree_76 Rs51 (by omega) (by omega) (fun s56 qs56 Rs56 => ?_)
                have Fs56 := pm_Fr_up (Fs51) qs56 (M := [(50, none), (51, none), (52, none)]) rfl
                have jj57 := pm_nec qs56 (c' := 40) (r' := 0) (i' := 0) (by decide)
                have jj58 := pm_nec qs56 (c' := 40) (r' := 0) (i' := 1) (by decide)
                have jj59 := pm_nec qs56 (c' := 40) (r' := 0) (i' := 2) (by decide)
                have jj60 := pm_nec qs56 (c' := 40) (r' := 0) (i' := 3) (by decide)
                refine px_iinc hG dX11_findTree_77 (Nat.le_of_ble_eq_true rfl) rfl (L2 := [some (.inr (.inr (40, 0))), some (.inl (v1_29 + 1)), some (.inl v2_12), some (.inl (v3_30 + 1))]) rfl ?_
                refine px_goto hG dX11_findTree_80 (tgt := 28) (by decide) ?_
                exact ih34 (v1_29 + 1) (v3_30 + 1) s56 Rs56 Fs56 (⟨by omega, by omega, by first | omega | (rw [pm_sc_st (by omega)]; omega)⟩) (by omega)
        exact L28 _ v1_11 1 s13 R14 F15 (⟨by omega, by omega, W.1⟩) (Nat.lt_succ_self _)
  exact L18 _ 1 1 s6 Rs6 Fs6 (⟨by omega, by omega, ⟨by rw [pm_sc_0]; rfl, by omega⟩⟩) (Nat.lt_succ_self _))
def pre_X11_findWalk (as : List pm_V) (n : Nat) (σ : pm_H) : Prop := as = [.inr (.inr (40, 0))] ∧ n = 122 ∧ pm_Rng σ ∧ (pm_J2 σ)
def po_X11_findWalk (as : List pm_V) (_ : Nat) (σ : pm_H) (r : Option pm_V) (τ : pm_H) : Prop := as = [.inr (.inr (40, 0))] → r = none ∧ pm_Rng τ ∧ pm_Fr [(57, none), (58, none)] σ τ
set_option maxRecDepth 20000 in
set_option maxHeartbeats 4000000 in
theorem ct_X11_findWalk : pm_Ct yX11_findWalk cX11_findWalk 4 none 0 0 pre_X11_findWalk po_X11_findWalk := pm_sound (ini := false) (by decide +kernel) pk_X11_findWalk (fun h => absurd h (by decide)) (by
  rintro as n s0 ⟨rfl, rfl, R0, hpre⟩
  refine ⟨by decide, Nat.le_of_ble_eq_true rfl, fun G hG => ?_⟩
  have hG : pm_Rules (RX11, 0, 122, cX11_findWalk, -1, (fun _ => 0), false, none, po_X11_findWalk [.inr (.inr (40, 0))] 122 s0) G := hG
  show G 0 [some (.inr (.inr (40, 0))), none, none, none] [] 122 s0
  have B0 := pb_40_0 R0
  have B1 := pb_40_1 R0
  have B2 := pb_40_2 R0
  have B3 := pb_40_3 R0
  have J2 := hpre
  have JK := J2.1
  have JW := J2.2
  refine px_iconst hG dX11_findWalk_0 ?_
  refine px_istore_n hG dX11_findWalk_1 (Nat.le_of_ble_eq_true rfl) (L2 := [some (.inr (.inr (40, 0))), some (.inl 0), none, none]) rfl ?_
  refine px_iconst hG dX11_findWalk_2 ?_
  refine px_istore_n hG dX11_findWalk_3 (Nat.le_of_ble_eq_true rfl) (L2 := [some (.inr (.inr (40, 0))), some (.inl 0), some (.inl 1), none]) rfl ?_
  have L4 : ∀ (N : Nat) (v1_1 : Int) (v2_2 : Int) (s3 : pm_H), pm_Rng s3 → pm_Fr [(57, none), (58, none)] s0 s3 → ((0 ≤ v1_1 ∧ v1_1 ≤ 10000) ∧ (1 ≤ v2_2 ∧ v2_2 ≤ 10000) ∧ (v1_1 = pm_sc (s0 41 0) v2_2 1 (s0 40 0 3).toNat ∧ 1 ≤ v2_2)) → (10001 - v2_2).toNat < N → G 4 [some (.inr (.inr (40, 0))), some (.inl v1_1), some (.inl v2_2), none] [] 122 s3 := by
    intro N
    induction N with
    | zero => intro v1_1 v2_2 s3 R4 F5 inv7 hm8; exact absurd hm8 (Nat.not_lt_zero _)
    | succ N ih6 =>
      intro v1_1 v2_2 s3 R4 F5 inv7 hm8
      have jj9 := F5 40 0 0 rfl
      have jj10 := F5 40 0 1 rfl
      have jj11 := F5 40 0 2 rfl
      have jj12 := F5 40 0 3 rfl
      have W := inv7.2.2
      refine px_iload_n hG dX11_findWalk_4 rfl ?_
      refine px_aload_n hG dX11_findWalk_5 rfl ?_
      refine gi_40_1 hG dX11_findWalk_6 fl_X11_7 R4 (fun x13 ex13 lx13 ux13 => ?_)
      have ex13 : s0 40 0 1 = x13 := (F5 40 0 1 rfl).symm.trans ex13
      refine px_ic_gt hG dX11_findWalk_9 (tgt := 63) (by decide) ⟨by omega, by omega⟩ ⟨by omega, by omega⟩ (fun c14 => ?_) (fun c14 => ?_)
      · have jj15 := F5 40 0 0 rfl
        have jj16 := F5 40 0 1 rfl
        have jj17 := F5 40 0 2 rfl
        have jj18 := F5 40 0 3 rfl
        exact px_vret (st := []) hG dX11_findWalk_63 rfl rfl (fun _ => by exact ⟨rfl, R4, F5⟩)
      · refine px_iconst hG dX11_findWalk_12 ?_
        refine px_istore_n hG dX11_findWalk_13 (Nat.le_of_ble_eq_true rfl) (L2 := [some (.inr (.inr (40, 0))), some (.inl v1_1), some (.inl v2_2), some (.inl 1)]) rfl ?_
        have L14 : ∀ (N : Nat) (v1_19 : Int) (v3_20 : Int) (s21 : pm_H), pm_Rng s21 → pm_Fr [(57, none), (58, none)] s0 s21 → ((v1_1 ≤ v1_19 ∧ v1_19 ≤ 10000) ∧ (1 ≤ v3_20 ∧ v3_20 ≤ 10000) ∧ (v1_19 = pm_sc (s0 41 0) v2_2 v3_20 (s0 40 0 3).toNat)) → (10001 - v3_20).toNat < N → G 14 [some (.inr (.inr (40, 0))), some (.inl v1_19), some (.inl v2_2), some (.inl v3_20)] [] 122 s21 := by
          intro N
          induction N with
          | zero => intro v1_19 v3_20 s21 R22 F23 inv25 hm26; exact absurd hm26 (Nat.not_lt_zero _)
          | succ N ih24 =>
            intro v1_19 v3_20 s21 R22 F23 inv25 hm26
            have jj27 := F23 40 0 0 rfl
            have jj28 := F23 40 0 1 rfl
            have jj29 := F23 40 0 2 rfl
            have jj30 := F23 40 0 3 rfl
            have U := inv25.2.2
            have UB := pm_sc_le (s0 41 0) v2_2 v3_20 (s0 40 0 3).toNat
            have UN := pm_sc_nn (s0 41 0) v2_2 v3_20 (s0 40 0 3).toNat
            refine px_iload_n hG dX11_findWalk_14 rfl ?_
            refine px_aload_n hG dX11_findWalk_15 rfl ?_
            refine gi_40_3 hG dX11_findWalk_16 fl_X11_110 R22 (fun x31 ex31 lx31 ux31 => ?_)
            have ex31 : s0 40 0 3 = x31 := (F23 40 0 3 rfl).symm.trans ex31
            refine px_ic_gt hG dX11_findWalk_19 (tgt := 57) (by decide) ⟨by omega, by omega⟩ ⟨by omega, by omega⟩ (fun c32 => ?_) (fun c32 => ?_)
            · have NX := pm_sc_nx (f := s0 41 0) (v := v2_2) (c := v3_20) (k := (s0 40 0 3).toNat) (by omega)
              refine px_iinc hG dX11_findWalk_57 (Nat.le_of_ble_eq_true rfl) rfl (L2 := [some (.inr (.inr (40, 0))), some (.inl v1_19), some (.inl (v2_2 + 1)), some (.inl v3_20)]) rfl ?_
              refine px_goto hG dX11_findWalk_60 (tgt := 4) (by decide) ?_
              refine px_weak hG (L2 := [some (.inr (.inr (40, 0))), some (.inl v1_19), some (.inl (v2_2 + 1)), none]) ⟨Or.inr rfl, Or.inr rfl, Or.inr rfl, Or.inl rfl, trivial⟩ ?_
              exact ih6 v1_19 (v2_2 + 1) s21 R22 F23 (⟨by omega, by omega, ⟨by omega, by omega⟩⟩) (by omega)
            · refine px_aload_n hG dX11_findWalk_22 rfl ?_
              refine gr_40_4 hG dX11_findWalk_23 fl_X11_13 R22 ?_
              refine px_iload_n hG dX11_findWalk_26 rfl ?_
              refine al_41 hG dX11_findWalk_27 R22 (by omega) (fun x33 ex33 lx33 ux33 => ?_)
              have X1 := (F23 41 0 v3_20 rfl).symm.trans ex33
              refine px_iload_n hG dX11_findWalk_28 rfl ?_
              refine px_ic_ne hG dX11_findWalk_29 (tgt := 51) (by decide) ⟨by omega, by omega⟩ ⟨by omega, by omega⟩ (fun c34 => ?_) (fun c34 => ?_)
              · refine px_iinc hG dX11_findWalk_51 (Nat.le_of_ble_eq_true rfl) rfl (L2 := [some (.inr (.inr (40, 0))), some (.inl v1_19), some (.inl v2_2), some (.inl (v3_20 + 1))]) rfl ?_
                refine px_goto hG dX11_findWalk_54 (tgt := 14) (by decide) ?_
                exact ih24 v1_19 (v3_20 + 1) s21 R22 F23 (⟨by omega, by omega, by first | omega | (rw [pm_sc_st (by omega)]; omega)⟩) (by omega)
              · have V := pm_sc_up (f := s0 41 0) (v := v2_2) (c := v3_20) (k := (s0 40 0 3).toNat) (by omega) (by omega) (by omega) (by omega)
                have VB := pm_sc_le (s0 41 0) v2_2 (v3_20 + 1) (s0 40 0 3).toNat
                refine px_iinc hG dX11_findWalk_32 (Nat.le_of_ble_eq_true rfl) rfl (L2 := [some (.inr (.inr (40, 0))), some (.inl (v1_19 + 1)), some (.inl v2_2), some (.inl v3_20)]) rfl ?_
                refine px_aload_n hG dX11_findWalk_35 rfl ?_
                refine gr_40_20 hG dX11_findWalk_36 fl_X11_64 R22 ?_
                refine px_iload_n hG dX11_findWalk_39 rfl ?_
                refine px_iload_n hG dX11_findWalk_40 rfl ?_
                refine as_57 hG dX11_findWalk_41 R22 (by omega) (by omega) (fun s35 qs35 Rs35 => ?_)
                have Fs35 := pm_Fr_up (F23) qs35 (M := [(57, none), (58, none)]) rfl
                have jj36 := pm_nec qs35 (c' := 40) (r' := 0) (i' := 0) (by decide)
                have jj37 := pm_nec qs35 (c' := 40) (r' := 0) (i' := 1) (by decide)
                have jj38 := pm_nec qs35 (c' := 40) (r' := 0) (i' := 2) (by decide)
                have jj39 := pm_nec qs35 (c' := 40) (r' := 0) (i' := 3) (by decide)
                refine px_aload_n hG dX11_findWalk_42 rfl ?_
                refine gr_40_21 hG dX11_findWalk_43 fl_X11_67 Rs35 ?_
                refine px_iload_n hG dX11_findWalk_46 rfl ?_
                refine px_iload_n hG dX11_findWalk_47 rfl ?_
                refine px_iload_n hG dX11_findWalk_48 rfl ?_
                refine px_isub hG dX11_findWalk_49 ?_
                refine as_58 hG dX11_findWalk_50 Rs35 (by omega) (by omega) (fun s40 qs40 Rs40 => ?_)
                have Fs40 := pm_Fr_up (Fs35) qs40 (M := [(57, none), (58, none)]) rfl
                have jj41 := pm_nec qs40 (c' := 40) (r' := 0) (i' := 0) (by decide)
                have jj42 := pm_nec qs40 (c' := 40) (r' := 0) (i' := 1) (by decide)
                have jj43 := pm_nec qs40 (c' := 40) (r' := 0) (i' := 2) (by decide)
                have jj44 := pm_nec qs40 (c' := 40) (r' := 0) (i' := 3) (by decide)
                refine px_iinc hG dX11_findWalk_51 (Nat.le_of_ble_eq_true rfl) rfl (L2 := [some (.inr (.inr (40, 0))), some (.inl (v1_19 + 1)), some (.inl v2_2), some (.inl (v3_20 + 1))]) rfl ?_
                refine px_goto hG dX11_findWalk_54 (tgt := 14) (by decide) ?_
                exact ih24 (v1_19 + 1) (v3_20 + 1) s40 Rs40 Fs40 (⟨by omega, by omega, by first | omega | (rw [pm_sc_st (by omega)]; omega)⟩) (by omega)
        exact L14 _ v1_1 1 s3 R4 F5 (⟨by omega, by omega, W.1⟩) (Nat.lt_succ_self _)
  exact L4 _ 0 1 s0 R0 pm_Fr_rf (⟨by omega, by omega, ⟨(pm_sc_0 _ _).symm, by omega⟩⟩) (Nat.lt_succ_self _))
def pre_X11_area (as : List pm_V) (n : Nat) (σ : pm_H) : Prop := as = [.inr (.inr (40, 0))] ∧ n = 122 ∧ pm_Rng σ ∧ (pm_J2 σ)
def po_X11_area (as : List pm_V) (_ : Nat) (σ : pm_H) (r : Option pm_V) (τ : pm_H) : Prop := as = [.inr (.inr (40, 0))] → ∃ v : Int, r = some (.inl v) ∧ σ = τ ∧ (-220 ≤ v ∧ v ≤ 220)
set_option maxRecDepth 20000 in
set_option maxHeartbeats 4000000 in
theorem ct_X11_area : pm_Ct yX11_area cX11_area 3 (some .int) 0 0 pre_X11_area po_X11_area := pm_sound (ini := false) (by decide +kernel) pk_X11_area (fun h => absurd h (by decide)) (by
  rintro as n s0 ⟨rfl, rfl, R0, hpre⟩
  refine ⟨by decide, Nat.le_of_ble_eq_true rfl, fun G hG => ?_⟩
  have hG : pm_Rules (RX11, 0, 122, cX11_area, -1, (fun _ => 0), false, (some .int), po_X11_area [.inr (.inr (40, 0))] 122 s0) G := hG
  show G 0 [some (.inr (.inr (40, 0))), none, none] [] 122 s0
  have B0 := pb_40_0 R0
  have B1 := pb_40_1 R0
  have B2 := pb_40_2 R0
  have B3 := pb_40_3 R0
  have J2 := hpre
  have JK := J2.1
  have JW := J2.2
  refine px_iconst hG dX11_area_0 ?_
  refine px_istore_n hG dX11_area_1 (Nat.le_of_ble_eq_true rfl) (L2 := [some (.inr (.inr (40, 0))), some (.inl 0), none]) rfl ?_
  refine px_iconst hG dX11_area_2 ?_
  refine px_istore_n hG dX11_area_3 (Nat.le_of_ble_eq_true rfl) (L2 := [some (.inr (.inr (40, 0))), some (.inl 0), some (.inl 1)]) rfl ?_
  have L4 : ∀ (N : Nat) (v1_1 : Int) (v2_2 : Int), ((1 ≤ v2_2 ∧ v2_2 ≤ 10000) ∧ (-20 * v2_2 ≤ v1_1 ∧ v1_1 ≤ 20 * v2_2 ∧ v2_2 ≤ 11)) → (10001 - v2_2).toNat < N → G 4 [some (.inr (.inr (40, 0))), some (.inl v1_1), some (.inl v2_2)] [] 122 s0 := by
    intro N
    induction N with
    | zero => intro v1_1 v2_2 inv4 hm5; exact absurd hm5 (Nat.not_lt_zero _)
    | succ N ih3 =>
      intro v1_1 v2_2 inv4 hm5
      refine px_iload_n hG dX11_area_4 rfl ?_
      refine px_aload_n hG dX11_area_5 rfl ?_
      refine gi_40_1 hG dX11_area_6 fl_X11_7 R0 (fun x6 ex6 lx6 ux6 => ?_)
      refine px_ic_gt hG dX11_area_9 (tgt := 27) (by decide) ⟨by omega, by omega⟩ ⟨by omega, by omega⟩ (fun c7 => ?_) (fun c7 => ?_)
      · refine px_iload_n hG dX11_area_27 rfl ?_
        exact px_iret (st := []) hG dX11_area_28 rfl rfl (fun _ => by exact ⟨_, rfl, rfl, by omega⟩)
      · refine px_iload_n hG dX11_area_12 rfl ?_
        refine px_aload_n hG dX11_area_13 rfl ?_
        refine gr_40_21 hG dX11_area_14 fl_X11_67 R0 ?_
        refine px_iload_n hG dX11_area_17 rfl ?_
        refine al_58 hG dX11_area_18 R0 (by omega) (fun x8 ex8 lx8 ux8 => ?_)
        refine px_iadd hG dX11_area_19 ?_
        refine px_istore_n hG dX11_area_20 (Nat.le_of_ble_eq_true rfl) (L2 := [some (.inr (.inr (40, 0))), some (.inl (v1_1 + x8)), some (.inl v2_2)]) rfl ?_
        refine px_iinc hG dX11_area_21 (Nat.le_of_ble_eq_true rfl) rfl (L2 := [some (.inr (.inr (40, 0))), some (.inl (v1_1 + x8)), some (.inl (v2_2 + 1))]) rfl ?_
        refine px_goto hG dX11_area_24 (tgt := 4) (by decide) ?_
        exact ih3 (v1_1 + x8) (v2_2 + 1) (⟨by omega, by omega⟩) (by omega)
  exact L4 _ 0 1 (⟨by omega, by omega⟩) (Nat.lt_succ_self _))
def pre_X11_dinv (as : List pm_V) (n : Nat) (σ : pm_H) : Prop := as = [.inr (.inr (40, 0))] ∧ n = 122 ∧ pm_Rng σ ∧ (pm_J2 σ)
def po_X11_dinv (as : List pm_V) (_ : Nat) (σ : pm_H) (r : Option pm_V) (τ : pm_H) : Prop := as = [.inr (.inr (40, 0))] → ∃ v : Int, r = some (.inl v) ∧ σ = τ ∧ (0 ≤ v ∧ v ≤ 220)
set_option maxRecDepth 20000 in
set_option maxHeartbeats 4000000 in
theorem ct_X11_dinv : pm_Ct yX11_dinv cX11_dinv 5 (some .int) 0 0 pre_X11_dinv po_X11_dinv := pm_sound (ini := false) (by decide +kernel) pk_X11_dinv (fun h => absurd h (by decide)) (by
  rintro as n s0 ⟨rfl, rfl, R0, hpre⟩
  refine ⟨by decide, Nat.le_of_ble_eq_true rfl, fun G hG => ?_⟩
  have hG : pm_Rules (RX11, 0, 122, cX11_dinv, -1, (fun _ => 0), false, (some .int), po_X11_dinv [.inr (.inr (40, 0))] 122 s0) G := hG
  show G 0 [some (.inr (.inr (40, 0))), none, none, none, none] [] 122 s0
  have B0 := pb_40_0 R0
  have B1 := pb_40_1 R0
  have B2 := pb_40_2 R0
  have B3 := pb_40_3 R0
  have J2 := hpre
  have JK := J2.1
  have JW := J2.2
  refine px_iconst hG dX11_dinv_0 ?_
  refine px_istore_n hG dX11_dinv_1 (Nat.le_of_ble_eq_true rfl) (L2 := [some (.inr (.inr (40, 0))), some (.inl 0), none, none, none]) rfl ?_
  refine px_iconst hG dX11_dinv_2 ?_
  refine px_istore_n hG dX11_dinv_3 (Nat.le_of_ble_eq_true rfl) (L2 := [some (.inr (.inr (40, 0))), some (.inl 0), some (.inl 1), none, none]) rfl ?_
  have L4 : ∀ (N : Nat) (v1_1 : Int) (v2_2 : Int), ((1 ≤ v2_2 ∧ v2_2 ≤ 10000) ∧ (0 ≤ v1_1 ∧ v1_1 ≤ 20 * v2_2 ∧ v2_2 ≤ 11)) → (10001 - v2_2).toNat < N → G 4 [some (.inr (.inr (40, 0))), some (.inl v1_1), some (.inl v2_2), none, none] [] 122 s0 := by
    intro N
    induction N with
    | zero => intro v1_1 v2_2 inv4 hm5; exact absurd hm5 (Nat.not_lt_zero _)
    | succ N ih3 =>
      intro v1_1 v2_2 inv4 hm5
      refine px_iload_n hG dX11_dinv_4 rfl ?_
      refine px_aload_n hG dX11_dinv_5 rfl ?_
      refine gi_40_1 hG dX11_dinv_6 fl_X11_7 R0 (fun x6 ex6 lx6 ux6 => ?_)
      refine px_ic_gt hG dX11_dinv_9 (tgt := 118) (by decide) ⟨by omega, by omega⟩ ⟨by omega, by omega⟩ (fun c7 => ?_) (fun c7 => ?_)
      · refine px_iload_n hG dX11_dinv_118 rfl ?_
        exact px_iret (st := []) hG dX11_dinv_119 rfl rfl (fun _ => by exact ⟨_, rfl, rfl, by omega⟩)
      · refine px_iload_n hG dX11_dinv_12 rfl ?_
        refine px_iconst hG dX11_dinv_13 ?_
        refine px_iadd hG dX11_dinv_14 ?_
        refine px_istore_n hG dX11_dinv_15 (Nat.le_of_ble_eq_true rfl) (L2 := [some (.inr (.inr (40, 0))), some (.inl v1_1), some (.inl v2_2), some (.inl (v2_2 + 1)), none]) rfl ?_
        have L16 : ∀ (N : Nat) (v1_8 : Int) (v3_9 : Int), ((v2_2 + 1 ≤ v3_9 ∧ v3_9 ≤ 10000) ∧ (0 ≤ v1_8 ∧ v1_8 ≤ 20 * v2_2 + v3_9 ∧ v3_9 ≤ 11)) → (10001 - v3_9).toNat < N → G 16 [some (.inr (.inr (40, 0))), some (.inl v1_8), some (.inl v2_2), some (.inl v3_9), none] [] 122 s0 := by
          intro N
          induction N with
          | zero => intro v1_8 v3_9 inv11 hm12; exact absurd hm12 (Nat.not_lt_zero _)
          | succ N ih10 =>
            intro v1_8 v3_9 inv11 hm12
            refine px_iload_n hG dX11_dinv_16 rfl ?_
            refine px_aload_n hG dX11_dinv_17 rfl ?_
            refine gi_40_1 hG dX11_dinv_18 fl_X11_7 R0 (fun x13 ex13 lx13 ux13 => ?_)
            refine px_ic_gt hG dX11_dinv_21 (tgt := 112) (by decide) ⟨by omega, by omega⟩ ⟨by omega, by omega⟩ (fun c14 => ?_) (fun c14 => ?_)
            · refine px_iinc hG dX11_dinv_112 (Nat.le_of_ble_eq_true rfl) rfl (L2 := [some (.inr (.inr (40, 0))), some (.inl v1_8), some (.inl (v2_2 + 1)), some (.inl v3_9), none]) rfl ?_
              refine px_goto hG dX11_dinv_115 (tgt := 4) (by decide) ?_
              refine px_weak hG (L2 := [some (.inr (.inr (40, 0))), some (.inl v1_8), some (.inl (v2_2 + 1)), none, none]) ⟨Or.inr rfl, Or.inr rfl, Or.inr rfl, Or.inl rfl, Or.inr rfl, trivial⟩ ?_
              exact ih3 v1_8 (v2_2 + 1) (⟨by omega, by omega⟩) (by omega)
            · refine px_aload_n hG dX11_dinv_24 rfl ?_
              refine gr_40_21 hG dX11_dinv_25 fl_X11_67 R0 ?_
              refine px_iload_n hG dX11_dinv_28 rfl ?_
              refine al_58 hG dX11_dinv_29 R0 (by omega) (fun x15 ex15 lx15 ux15 => ?_)
              refine px_aload_n hG dX11_dinv_30 rfl ?_
              refine gr_40_21 hG dX11_dinv_31 fl_X11_67 R0 ?_
              refine px_iload_n hG dX11_dinv_34 rfl ?_
              refine al_58 hG dX11_dinv_35 R0 (by omega) (fun x16 ex16 lx16 ux16 => ?_)
              have J59_19 : ∀ (j18 : Int), (j18 = 0 ∨ j18 = 1) → G 59 [some (.inr (.inr (40, 0))), some (.inl v1_8), some (.inl v2_2), some (.inl v3_9), none] [.inl j18] 122 s0 := by
                intro j18 inv20
                refine px_istore hG dX11_dinv_59 (Nat.le_of_ble_eq_true rfl) (L2 := [some (.inr (.inr (40, 0))), some (.inl v1_8), some (.inl v2_2), some (.inl v3_9), some (.inl j18)]) rfl ?_
                refine px_iload_n hG dX11_dinv_61 rfl ?_
                refine px_iload hG dX11_dinv_62 rfl ?_
                have J104_23 : ∀ (j22 : Int), (j22 = 0 ∨ j22 = 1) → G 104 [some (.inr (.inr (40, 0))), none, some (.inl v2_2), some (.inl v3_9), none] [.inl j22, .inl v1_8] 122 s0 := by
                  intro j22 inv24
                  refine px_iadd hG dX11_dinv_104 ?_
                  refine px_istore_n hG dX11_dinv_105 (Nat.le_of_ble_eq_true rfl) (L2 := [some (.inr (.inr (40, 0))), some (.inl (v1_8 + j22)), some (.inl v2_2), some (.inl v3_9), none]) rfl ?_
                  refine px_iinc hG dX11_dinv_106 (Nat.le_of_ble_eq_true rfl) rfl (L2 := [some (.inr (.inr (40, 0))), some (.inl (v1_8 + j22)), some (.inl v2_2), some (.inl (v3_9 + 1)), none]) rfl ?_
                  refine px_goto hG dX11_dinv_109 (tgt := 16) (by decide) ?_
                  exact ih10 (v1_8 + j22) (v3_9 + 1) (⟨by omega, by omega⟩) (by omega)
                refine px_if_ne hG dX11_dinv_64 (tgt := 99) (by decide) ⟨by omega, by omega⟩ (fun c21 => ?_) (fun c21 => ?_)
                · refine px_iconst hG dX11_dinv_99 ?_
                  refine px_goto hG dX11_dinv_100 (tgt := 104) (by decide) ?_
                  refine px_weak hG (L2 := [some (.inr (.inr (40, 0))), none, some (.inl v2_2), some (.inl v3_9), none]) ⟨Or.inr rfl, Or.inl rfl, Or.inr rfl, Or.inr rfl, Or.inl rfl, trivial⟩ ?_
                  exact J104_23 1 (by omega)
                · refine px_aload_n hG dX11_dinv_67 rfl ?_
                  refine gr_40_21 hG dX11_dinv_68 fl_X11_67 R0 ?_
                  refine px_iload_n hG dX11_dinv_71 rfl ?_
                  refine al_58 hG dX11_dinv_72 R0 (by omega) (fun x25 ex25 lx25 ux25 => ?_)
                  refine px_aload_n hG dX11_dinv_73 rfl ?_
                  refine gr_40_21 hG dX11_dinv_74 fl_X11_67 R0 ?_
                  refine px_iload_n hG dX11_dinv_77 rfl ?_
                  refine al_58 hG dX11_dinv_78 R0 (by omega) (fun x26 ex26 lx26 ux26 => ?_)
                  refine px_iconst hG dX11_dinv_79 ?_
                  refine px_iadd hG dX11_dinv_80 ?_
                  refine px_ic_ne hG dX11_dinv_81 (tgt := 103) (by decide) ⟨by omega, by omega⟩ ⟨by omega, by omega⟩ (fun c27 => ?_) (fun c27 => ?_)
                  · refine px_iconst hG dX11_dinv_103 ?_
                    refine px_weak hG (L2 := [some (.inr (.inr (40, 0))), none, some (.inl v2_2), some (.inl v3_9), none]) ⟨Or.inr rfl, Or.inl rfl, Or.inr rfl, Or.inr rfl, Or.inl rfl, trivial⟩ ?_
                    exact J104_23 0 (by omega)
                  · refine px_aload_n hG dX11_dinv_84 rfl ?_
                    refine gr_40_20 hG dX11_dinv_85 fl_X11_64 R0 ?_
                    refine px_iload_n hG dX11_dinv_88 rfl ?_
                    refine al_57 hG dX11_dinv_89 R0 (by omega) (fun x28 ex28 lx28 ux28 => ?_)
                    refine px_aload_n hG dX11_dinv_90 rfl ?_
                    refine gr_40_20 hG dX11_dinv_91 fl_X11_64 R0 ?_
                    refine px_iload_n hG dX11_dinv_94 rfl ?_
                    refine al_57 hG dX11_dinv_95 R0 (by omega) (fun x29 ex29 lx29 ux29 => ?_)
                    refine px_ic_le hG dX11_dinv_96 (tgt := 103) (by decide) ⟨by omega, by omega⟩ ⟨by omega, by omega⟩ (fun c30 => ?_) (fun c30 => ?_)
                    · refine px_iconst hG dX11_dinv_103 ?_
                      refine px_weak hG (L2 := [some (.inr (.inr (40, 0))), none, some (.inl v2_2), some (.inl v3_9), none]) ⟨Or.inr rfl, Or.inl rfl, Or.inr rfl, Or.inr rfl, Or.inl rfl, trivial⟩ ?_
                      exact J104_23 0 (by omega)
                    · refine px_iconst hG dX11_dinv_99 ?_
                      refine px_goto hG dX11_dinv_100 (tgt := 104) (by decide) ?_
                      refine px_weak hG (L2 := [some (.inr (.inr (40, 0))), none, some (.inl v2_2), some (.inl v3_9), none]) ⟨Or.inr rfl, Or.inl rfl, Or.inr rfl, Or.inr rfl, Or.inl rfl, trivial⟩ ?_
                      exact J104_23 1 (by omega)
              refine px_ic_ne hG dX11_dinv_36 (tgt := 58) (by decide) ⟨by omega, by omega⟩ ⟨by omega, by omega⟩ (fun c17 => ?_) (fun c17 => ?_)
              · refine px_iconst hG dX11_dinv_58 ?_
                exact J59_19 0 (by omega)
              · refine px_aload_n hG dX11_dinv_39 rfl ?_
                refine gr_40_20 hG dX11_dinv_40 fl_X11_64 R0 ?_
                refine px_iload_n hG dX11_dinv_43 rfl ?_
                refine al_57 hG dX11_dinv_44 R0 (by omega) (fun x31 ex31 lx31 ux31 => ?_)
                refine px_aload_n hG dX11_dinv_45 rfl ?_
                refine gr_40_20 hG dX11_dinv_46 fl_X11_64 R0 ?_
                refine px_iload_n hG dX11_dinv_49 rfl ?_
                refine al_57 hG dX11_dinv_50 R0 (by omega) (fun x32 ex32 lx32 ux32 => ?_)
                refine px_ic_ge hG dX11_dinv_51 (tgt := 58) (by decide) ⟨by omega, by omega⟩ ⟨by omega, by omega⟩ (fun c33 => ?_) (fun c33 => ?_)
                · refine px_iconst hG dX11_dinv_58 ?_
                  exact J59_19 0 (by omega)
                · refine px_iconst hG dX11_dinv_54 ?_
                  refine px_goto hG dX11_dinv_55 (tgt := 59) (by decide) ?_
                  exact J59_19 1 (by omega)
        exact L16 _ v1_1 (v2_2 + 1) (⟨by omega, by omega⟩) (Nat.lt_succ_self _)
  exact L4 _ 0 1 (⟨by omega, by omega⟩) (Nat.lt_succ_self _))
def pre_X11_walk (as : List pm_V) (n : Nat) (σ : pm_H) : Prop := ∃ aa ab : Int, as = [.inr (.inr (40, 0)), .inl aa, .inl ab] ∧ n = 122 ∧ pm_Rng σ ∧ ((pm_in aa ∧ pm_in ab) ∧ pm_J2 σ)
def po_X11_walk (as : List pm_V) (_ : Nat) (σ : pm_H) (r : Option pm_V) (τ : pm_H) : Prop := ∀ aa ab : Int, as = [.inr (.inr (40, 0)), .inl aa, .inl ab] → ∃ v : Int, r = some (.inl v) ∧ pm_Rng τ ∧ pm_Fr [(43, none), (44, none), (57, none), (58, none)] σ τ
set_option maxRecDepth 20000 in
set_option maxHeartbeats 4000000 in
theorem ct_X11_walk : pm_Ct yX11_walk cX11_walk 3 (some .int) 5 0 pre_X11_walk po_X11_walk := pm_sound (ini := false) (by decide +kernel) pk_X11_walk (fun h => absurd h (by decide)) (by
  rintro as n s0 ⟨aa, ab, rfl, rfl, R0, hpre⟩
  refine ⟨by decide, Nat.le_of_ble_eq_true rfl, fun G hG => ?_⟩
  have hG : pm_Rules (RX11, 5, 122, cX11_walk, -1, (fun _ => 0), false, (some .int), po_X11_walk [.inr (.inr (40, 0)), .inl aa, .inl ab] 122 s0) G := hG
  show G 0 [some (.inr (.inr (40, 0))), some (.inl aa), some (.inl ab)] [] 122 s0
  have B0 := pb_40_0 R0
  have B1 := pb_40_1 R0
  have B2 := pb_40_2 R0
  have B3 := pb_40_3 R0
  have J2 := hpre.2
  have HP := hpre.1
  have JK := J2.1
  have JW := J2.2
  refine px_iload_n hG dX11_walk_0 rfl ?_
  refine px_i2l hG dX11_walk_1 ⟨by omega, by omega⟩ ?_
  refine px_lconst hG dX11_walk_2 ?_
  show G 3 [some (.inr (.inr (40, 0))), some (.inl aa), some (.inl ab)] [.inr (.inl 1), .inr (.inl aa)] 122 s0
  refine px_aload_n hG dX11_walk_3 rfl ?_
  refine gi_40_1 hG dX11_walk_4 fl_X11_7 R0 (fun x1 ex1 lx1 ux1 => ?_)
  refine px_i2l hG dX11_walk_7 ⟨by omega, by omega⟩ ?_
  refine js3 hG dX11_walk_8 ct_X11_in lk_X11_96 ⟨Nat.le_of_ble_eq_true rfl, Nat.le_of_ble_eq_true rfl, Nat.le_of_ble_eq_true rfl⟩ (Nat.le_of_ble_eq_true rfl) ⟨aa, 1, x1, rfl, rfl, R0, by omega⟩ (fun r2 t3 pr2 => ?_)
  obtain ⟨x4, rfl, rfl, br2⟩ := pr2 _ _ _ rfl
  show G 11 [some (.inr (.inr (40, 0))), some (.inl aa), some (.inl ab)] [.inl x4] 122 s0
  refine px_if_eq hG dX11_walk_11 (tgt := 24) (by decide) ⟨by omega, by omega⟩ (fun c5 => ?_) (fun c5 => ?_)
  · refine px_iconst hG dX11_walk_24 ?_
    exact px_iret (st := []) hG dX11_walk_25 rfl rfl (fun aa_1 ab_1 ee => by cases ee; exact ⟨_, rfl, R0, pm_Fr_rf⟩)
  · refine px_iload_n hG dX11_walk_14 rfl ?_
    refine px_i2l hG dX11_walk_15 ⟨by omega, by omega⟩ ?_
    refine px_lconst hG dX11_walk_16 ?_
    show G 17 [some (.inr (.inr (40, 0))), some (.inl aa), some (.inl ab)] [.inr (.inl 0), .inr (.inl ab)] 122 s0
    refine px_lconst hG dX11_walk_17 ?_
    show G 18 [some (.inr (.inr (40, 0))), some (.inl aa), some (.inl ab)] [.inr (.inl 1), .inr (.inl 0), .inr (.inl ab)] 122 s0
    refine js3 hG dX11_walk_18 ct_X11_in lk_X11_96 ⟨Nat.le_of_ble_eq_true rfl, Nat.le_of_ble_eq_true rfl, Nat.le_of_ble_eq_true rfl⟩ (Nat.le_of_ble_eq_true rfl) ⟨ab, 0, 1, rfl, rfl, R0, by omega⟩ (fun r6 t7 pr6 => ?_)
    obtain ⟨x8, rfl, rfl, br6⟩ := pr6 _ _ _ rfl
    show G 21 [some (.inr (.inr (40, 0))), some (.inl aa), some (.inl ab)] [.inl x8] 122 s0
    refine px_if_ne hG dX11_walk_21 (tgt := 26) (by decide) ⟨by omega, by omega⟩ (fun c9 => ?_) (fun c9 => ?_)
    · refine px_aload_n hG dX11_walk_26 rfl ?_
      refine jv0 hG dX11_walk_27 ct_X11_isFull lk_X11_189 ⟨rfl, rfl⟩ (by decide) ⟨Nat.le_of_ble_eq_true rfl, Nat.le_of_ble_eq_true rfl, Nat.le_of_ble_eq_true rfl⟩ (Nat.le_of_ble_eq_true rfl) ⟨rfl, rfl, R0, J2⟩ (fun r10 t12 pr10 => ?_)
      obtain ⟨x13, rfl, Rt12, Ft12, br10⟩ := pr10 rfl
      have Ff14 := pm_Fr_mono Ft12 (M := [(43, none), (44, none), (57, none), (58, none)]) rfl
      have jj15 := Ft12 40 0 0 rfl
      have jj16 := Ft12 40 0 1 rfl
      have jj17 := Ft12 40 0 2 rfl
      have jj18 := Ft12 40 0 3 rfl
      have k19 : t12 40 0 1 = x1 := (Ft12 40 0 1 rfl).trans ex1
      show G 30 [some (.inr (.inr (40, 0))), some (.inl aa), some (.inl ab)] [.inl x13] 122 t12
      refine px_if_ne hG dX11_walk_30 (tgt := 36) (by decide) ⟨by omega, by omega⟩ (fun c20 => ?_) (fun c20 => ?_)
      · refine px_aload_n hG dX11_walk_36 rfl ?_
        refine jv0 hG dX11_walk_37 ct_X11_findWalk lk_X11_228 ⟨rfl, rfl⟩ (by decide) ⟨Nat.le_of_ble_eq_true rfl, Nat.le_of_ble_eq_true rfl, Nat.le_of_ble_eq_true rfl⟩ (Nat.le_of_ble_eq_true rfl) ⟨rfl, rfl, Rt12, (pm_J2_fr Ff14 rfl J2)⟩ (fun r21 t23 pr21 => ?_)
        obtain ⟨rfl, Rt23, Ft23⟩ := pr21 rfl
        have Ff25 := pm_Fr_tr Ff14 Ft23 (M := [(43, none), (44, none), (57, none), (58, none)]) rfl
        have jj26 := Ft23 40 0 0 rfl
        have jj27 := Ft23 40 0 1 rfl
        have jj28 := Ft23 40 0 2 rfl
        have jj29 := Ft23 40 0 3 rfl
        have k30 : t23 40 0 1 = x1 := (Ft23 40 0 1 rfl).trans k19
        show G 40 [some (.inr (.inr (40, 0))), some (.inl aa), some (.inl ab)] [] 122 t23
        refine px_iload_n hG dX11_walk_40 rfl ?_
        refine px_if_ne hG dX11_walk_41 (tgt := 53) (by decide) ⟨by omega, by omega⟩ (fun c31 => ?_) (fun c31 => ?_)
        · refine px_aload_n hG dX11_walk_53 rfl ?_
          refine gr_40_21 hG dX11_walk_54 fl_X11_67 Rt23 ?_
          refine px_iload_n hG dX11_walk_57 rfl ?_
          refine al_58 hG dX11_walk_58 Rt23 (by omega) (fun x32 ex32 lx32 ux32 => ?_)
          have jj33 := Ff25 40 0 0 rfl
          have jj34 := Ff25 40 0 1 rfl
          have jj35 := Ff25 40 0 2 rfl
          have jj36 := Ff25 40 0 3 rfl
          exact px_iret (st := []) hG dX11_walk_59 rfl rfl (fun aa_1 ab_1 ee => by cases ee; exact ⟨_, rfl, Rt23, Ff25⟩)
        · refine px_aload_n hG dX11_walk_44 rfl ?_
          refine gr_40_20 hG dX11_walk_45 fl_X11_64 Rt23 ?_
          refine px_iload_n hG dX11_walk_48 rfl ?_
          refine al_57 hG dX11_walk_49 Rt23 (by omega) (fun x37 ex37 lx37 ux37 => ?_)
          refine px_goto hG dX11_walk_50 (tgt := 59) (by decide) ?_
          have jj38 := Ff25 40 0 0 rfl
          have jj39 := Ff25 40 0 1 rfl
          have jj40 := Ff25 40 0 2 rfl
          have jj41 := Ff25 40 0 3 rfl
          exact px_iret (st := []) hG dX11_walk_59 rfl rfl (fun aa_1 ab_1 ee => by cases ee; exact ⟨_, rfl, Rt23, Ff25⟩)
      · refine px_bipush hG dX11_walk_33 (by decide) ?_
        have jj42 := Ff14 40 0 0 rfl
        have jj43 := Ff14 40 0 1 rfl
        have jj44 := Ff14 40 0 2 rfl
        have jj45 := Ff14 40 0 3 rfl
        exact px_iret (st := []) hG dX11_walk_35 rfl rfl (fun aa_1 ab_1 ee => by cases ee; exact ⟨_, rfl, Rt12, Ff14⟩)
    · refine px_iconst hG dX11_walk_24 ?_
      exact px_iret (st := []) hG dX11_walk_25 rfl rfl (fun aa_1 ab_1 ee => by cases ee; exact ⟨_, rfl, R0, pm_Fr_rf⟩))
def pre_X11_counts (as : List pm_V) (n : Nat) (σ : pm_H) : Prop := ∃ aa : Int, as = [.inr (.inr (40, 0)), .inl aa] ∧ n = 122 ∧ pm_Rng σ ∧ ((pm_in aa) ∧ pm_J2 σ)
def po_X11_counts (as : List pm_V) (_ : Nat) (σ : pm_H) (r : Option pm_V) (τ : pm_H) : Prop := ∀ aa : Int, as = [.inr (.inr (40, 0)), .inl aa] → ∃ v : Int, r = some (.inl v) ∧ pm_Rng τ ∧ pm_Fr [(43, none), (44, none), (57, none), (58, none)] σ τ
set_option maxRecDepth 20000 in
set_option maxHeartbeats 4000000 in
theorem ct_X11_counts : pm_Ct yX11_counts cX11_counts 2 (some .int) 5 0 pre_X11_counts po_X11_counts := pm_sound (ini := false) (by decide +kernel) pk_X11_counts (fun h => absurd h (by decide)) (by
  rintro as n s0 ⟨aa, rfl, rfl, R0, hpre⟩
  refine ⟨by decide, Nat.le_of_ble_eq_true rfl, fun G hG => ?_⟩
  have hG : pm_Rules (RX11, 5, 122, cX11_counts, -1, (fun _ => 0), false, (some .int), po_X11_counts [.inr (.inr (40, 0)), .inl aa] 122 s0) G := hG
  show G 0 [some (.inr (.inr (40, 0))), some (.inl aa)] [] 122 s0
  have B0 := pb_40_0 R0
  have B1 := pb_40_1 R0
  have B2 := pb_40_2 R0
  have B3 := pb_40_3 R0
  have J2 := hpre.2
  have HP := hpre.1
  have JK := J2.1
  have JW := J2.2
  refine px_iload_n hG dX11_counts_0 rfl ?_
  refine px_i2l hG dX11_counts_1 ⟨by omega, by omega⟩ ?_
  refine px_lconst hG dX11_counts_2 ?_
  show G 3 [some (.inr (.inr (40, 0))), some (.inl aa)] [.inr (.inl 0), .inr (.inl aa)] 122 s0
  refine px_lconst hG dX11_counts_3 ?_
  show G 4 [some (.inr (.inr (40, 0))), some (.inl aa)] [.inr (.inl 1), .inr (.inl 0), .inr (.inl aa)] 122 s0
  refine js3 hG dX11_counts_4 ct_X11_in lk_X11_96 ⟨Nat.le_of_ble_eq_true rfl, Nat.le_of_ble_eq_true rfl, Nat.le_of_ble_eq_true rfl⟩ (Nat.le_of_ble_eq_true rfl) ⟨aa, 0, 1, rfl, rfl, R0, by omega⟩ (fun r1 t2 pr1 => ?_)
  obtain ⟨x3, rfl, rfl, br1⟩ := pr1 _ _ _ rfl
  show G 7 [some (.inr (.inr (40, 0))), some (.inl aa)] [.inl x3] 122 s0
  refine px_if_ne hG dX11_counts_7 (tgt := 12) (by decide) ⟨by omega, by omega⟩ (fun c4 => ?_) (fun c4 => ?_)
  · refine px_aload_n hG dX11_counts_12 rfl ?_
    refine jv0 hG dX11_counts_13 ct_X11_isFull lk_X11_189 ⟨rfl, rfl⟩ (by decide) ⟨Nat.le_of_ble_eq_true rfl, Nat.le_of_ble_eq_true rfl, Nat.le_of_ble_eq_true rfl⟩ (Nat.le_of_ble_eq_true rfl) ⟨rfl, rfl, R0, J2⟩ (fun r5 t7 pr5 => ?_)
    obtain ⟨x8, rfl, Rt7, Ft7, br5⟩ := pr5 rfl
    have Ff9 := pm_Fr_mono Ft7 (M := [(43, none), (44, none), (57, none), (58, none)]) rfl
    have jj10 := Ft7 40 0 0 rfl
    have jj11 := Ft7 40 0 1 rfl
    have jj12 := Ft7 40 0 2 rfl
    have jj13 := Ft7 40 0 3 rfl
    show G 16 [some (.inr (.inr (40, 0))), some (.inl aa)] [.inl x8] 122 t7
    refine px_if_ne hG dX11_counts_16 (tgt := 22) (by decide) ⟨by omega, by omega⟩ (fun c14 => ?_) (fun c14 => ?_)
    · refine px_aload_n hG dX11_counts_22 rfl ?_
      refine jv0 hG dX11_counts_23 ct_X11_findWalk lk_X11_228 ⟨rfl, rfl⟩ (by decide) ⟨Nat.le_of_ble_eq_true rfl, Nat.le_of_ble_eq_true rfl, Nat.le_of_ble_eq_true rfl⟩ (Nat.le_of_ble_eq_true rfl) ⟨rfl, rfl, Rt7, (pm_J2_fr Ff9 rfl J2)⟩ (fun r15 t17 pr15 => ?_)
      obtain ⟨rfl, Rt17, Ft17⟩ := pr15 rfl
      have Ff19 := pm_Fr_tr Ff9 Ft17 (M := [(43, none), (44, none), (57, none), (58, none)]) rfl
      have jj20 := Ft17 40 0 0 rfl
      have jj21 := Ft17 40 0 1 rfl
      have jj22 := Ft17 40 0 2 rfl
      have jj23 := Ft17 40 0 3 rfl
      show G 26 [some (.inr (.inr (40, 0))), some (.inl aa)] [] 122 t17
      refine px_iload_n hG dX11_counts_26 rfl ?_
      refine px_if_ne hG dX11_counts_27 (tgt := 37) (by decide) ⟨by omega, by omega⟩ (fun c24 => ?_) (fun c24 => ?_)
      · refine px_aload_n hG dX11_counts_37 rfl ?_
        refine jv0 hG dX11_counts_38 ct_X11_dinv lk_X11_235 ⟨rfl, rfl⟩ (by decide) ⟨Nat.le_of_ble_eq_true rfl, Nat.le_of_ble_eq_true rfl, Nat.le_of_ble_eq_true rfl⟩ (Nat.le_of_ble_eq_true rfl) ⟨rfl, rfl, Rt17, (pm_J2_fr Ff19 rfl J2)⟩ (fun r25 t26 pr25 => ?_)
        obtain ⟨x27, rfl, rfl, br25⟩ := pr25 rfl
        show G 41 [some (.inr (.inr (40, 0))), some (.inl aa)] [.inl x27] 122 t17
        have jj28 := Ff19 40 0 0 rfl
        have jj29 := Ff19 40 0 1 rfl
        have jj30 := Ff19 40 0 2 rfl
        have jj31 := Ff19 40 0 3 rfl
        exact px_iret (st := []) hG dX11_counts_41 rfl rfl (fun aa_1 ee => by cases ee; exact ⟨_, rfl, Rt17, Ff19⟩)
      · refine px_aload_n hG dX11_counts_30 rfl ?_
        refine jv0 hG dX11_counts_31 ct_X11_area lk_X11_231 ⟨rfl, rfl⟩ (by decide) ⟨Nat.le_of_ble_eq_true rfl, Nat.le_of_ble_eq_true rfl, Nat.le_of_ble_eq_true rfl⟩ (Nat.le_of_ble_eq_true rfl) ⟨rfl, rfl, Rt17, (pm_J2_fr Ff19 rfl J2)⟩ (fun r32 t33 pr32 => ?_)
        obtain ⟨x34, rfl, rfl, br32⟩ := pr32 rfl
        show G 34 [some (.inr (.inr (40, 0))), some (.inl aa)] [.inl x34] 122 t17
        refine px_goto hG dX11_counts_34 (tgt := 41) (by decide) ?_
        have jj35 := Ff19 40 0 0 rfl
        have jj36 := Ff19 40 0 1 rfl
        have jj37 := Ff19 40 0 2 rfl
        have jj38 := Ff19 40 0 3 rfl
        exact px_iret (st := []) hG dX11_counts_41 rfl rfl (fun aa_1 ee => by cases ee; exact ⟨_, rfl, Rt17, Ff19⟩)
    · refine px_bipush hG dX11_counts_19 (by decide) ?_
      have jj39 := Ff9 40 0 0 rfl
      have jj40 := Ff9 40 0 1 rfl
      have jj41 := Ff9 40 0 2 rfl
      have jj42 := Ff9 40 0 3 rfl
      exact px_iret (st := []) hG dX11_counts_21 rfl rfl (fun aa_1 ee => by cases ee; exact ⟨_, rfl, Rt7, Ff9⟩)
  · refine px_iconst hG dX11_counts_10 ?_
    exact px_iret (st := []) hG dX11_counts_11 rfl rfl (fun aa_1 ee => by cases ee; exact ⟨_, rfl, R0, pm_Fr_rf⟩))
def pre_X11_rankOf (as : List pm_V) (n : Nat) (σ : pm_H) : Prop := as = [.inr (.inr (40, 0))] ∧ n = 122 ∧ pm_Rng σ ∧ (pm_J2 σ)
def po_X11_rankOf (as : List pm_V) (_ : Nat) (σ : pm_H) (r : Option pm_V) (τ : pm_H) : Prop := as = [.inr (.inr (40, 0))] → ∃ v : Int, r = some (.inr (.inl v)) ∧ pm_Rng τ ∧ pm_Fr [(47, none), (48, none)] σ τ
set_option maxRecDepth 20000 in
set_option maxHeartbeats 4000000 in
theorem ct_X11_rankOf : pm_Ct yX11_rankOf cX11_rankOf 5 (some .long) 3 0 pre_X11_rankOf po_X11_rankOf := pm_sound (ini := false) (by decide +kernel) pk_X11_rankOf (fun h => absurd h (by decide)) (by
  rintro as n s0 ⟨rfl, rfl, R0, hpre⟩
  refine ⟨by decide, Nat.le_of_ble_eq_true rfl, fun G hG => ?_⟩
  have hG : pm_Rules (RX11, 3, 122, cX11_rankOf, -1, (fun _ => 0), false, (some .long), po_X11_rankOf [.inr (.inr (40, 0))] 122 s0) G := hG
  show G 0 [some (.inr (.inr (40, 0))), none, none, none, none] [] 122 s0
  have B0 := pb_40_0 R0
  have B1 := pb_40_1 R0
  have B2 := pb_40_2 R0
  have B3 := pb_40_3 R0
  have J2 := hpre
  have JK := J2.1
  have JW := J2.2
  refine px_aload_n hG dX11_rankOf_0 rfl ?_
  refine jv0 hG dX11_rankOf_1 ct_X11_clearTold lk_X11_152 ⟨rfl, rfl⟩ (by decide) ⟨Nat.le_of_ble_eq_true rfl, Nat.le_of_ble_eq_true rfl, Nat.le_of_ble_eq_true rfl⟩ (Nat.le_of_ble_eq_true rfl) ⟨rfl, rfl, R0, J2⟩ (fun r1 t3 pr1 => ?_)
  obtain ⟨rfl, Rt3, Ft3, br1⟩ := pr1 rfl
  have Ff5 := pm_Fr_mono Ft3 (M := [(47, none), (48, none)]) rfl
  have jj6 := Ft3 40 0 0 rfl
  have jj7 := Ft3 40 0 1 rfl
  have jj8 := Ft3 40 0 2 rfl
  have jj9 := Ft3 40 0 3 rfl
  show G 4 [some (.inr (.inr (40, 0))), none, none, none, none] [] 122 t3
  have W : ∀ i : Int, 0 ≤ i → i ≤ 10 → t3 47 0 i = 0 := fun i h0 h1 => br1 i h0 (by omega)
  refine px_lconst hG dX11_rankOf_4 ?_
  show G 5 [some (.inr (.inr (40, 0))), none, none, none, none] [.inr (.inl 0)] 122 t3
  refine px_lstore_n hG dX11_rankOf_5 (Nat.le_of_ble_eq_true rfl) (L2 := [some (.inr (.inr (40, 0))), some (.inr (.inl 0)), none, none, none]) rfl ?_
  refine px_iconst hG dX11_rankOf_6 ?_
  refine px_istore_n hG dX11_rankOf_7 (Nat.le_of_ble_eq_true rfl) (L2 := [some (.inr (.inr (40, 0))), some (.inr (.inl 0)), none, some (.inl 1), none]) rfl ?_
  have L8 : ∀ (N : Nat) (v1_10 : Int) (v3_11 : Int) (s12 : pm_H), pm_Rng s12 → pm_Fr [(47, none), (48, none)] s0 s12 → ((1 ≤ v3_11 ∧ v3_11 ≤ 10000) ∧ (pm_wb s12 47 (v3_11 - 1))) → (10001 - v3_11).toNat < N → G 8 [some (.inr (.inr (40, 0))), some (.inr (.inl v1_10)), none, some (.inl v3_11), none] [] 122 s12 := by
    intro N
    induction N with
    | zero => intro v1_10 v3_11 s12 R13 F14 inv16 hm17; exact absurd hm17 (Nat.not_lt_zero _)
    | succ N ih15 =>
      intro v1_10 v3_11 s12 R13 F14 inv16 hm17
      have jj18 := F14 40 0 0 rfl
      have jj19 := F14 40 0 1 rfl
      have jj20 := F14 40 0 2 rfl
      have jj21 := F14 40 0 3 rfl
      have W := inv16.2
      refine px_iload_n hG dX11_rankOf_8 rfl ?_
      refine px_aload_n hG dX11_rankOf_9 rfl ?_
      refine gi_40_3 hG dX11_rankOf_10 fl_X11_110 R13 (fun x22 ex22 lx22 ux22 => ?_)
      have ex22 : s0 40 0 3 = x22 := (F14 40 0 3 rfl).symm.trans ex22
      refine px_ic_gt hG dX11_rankOf_13 (tgt := 96) (by decide) ⟨by omega, by omega⟩ ⟨by omega, by omega⟩ (fun c23 => ?_) (fun c23 => ?_)
      · refine px_lload_n hG dX11_rankOf_96 rfl ?_
        have jj24 := F14 40 0 0 rfl
        have jj25 := F14 40 0 1 rfl
        have jj26 := F14 40 0 2 rfl
        have jj27 := F14 40 0 3 rfl
        exact px_lret (st := []) hG dX11_rankOf_97 rfl rfl (fun _ => by exact ⟨_, rfl, R13, F14⟩)
      · refine px_iconst hG dX11_rankOf_16 ?_
        refine px_istore hG dX11_rankOf_17 (Nat.le_of_ble_eq_true rfl) (L2 := [some (.inr (.inr (40, 0))), some (.inr (.inl v1_10)), none, some (.inl v3_11), some (.inl 1)]) rfl ?_
        have L19 : ∀ (N : Nat) (v1_28 : Int) (v4_29 : Int) (s30 : pm_H), pm_Rng s30 → pm_Fr [(47, none), (48, none)] s0 s30 → ((1 ≤ v4_29 ∧ v4_29 ≤ 10000) ∧ (pm_wb s30 47 (v3_11 - 1))) → (10001 - v4_29).toNat < N → G 19 [some (.inr (.inr (40, 0))), some (.inr (.inl v1_28)), none, some (.inl v3_11), some (.inl v4_29)] [] 122 s30 := by
          intro N
          induction N with
          | zero => intro v1_28 v4_29 s30 R31 F32 inv34 hm35; exact absurd hm35 (Nat.not_lt_zero _)
          | succ N ih33 =>
            intro v1_28 v4_29 s30 R31 F32 inv34 hm35
            have jj36 := F32 40 0 0 rfl
            have jj37 := F32 40 0 1 rfl
            have jj38 := F32 40 0 2 rfl
            have jj39 := F32 40 0 3 rfl
            have W := inv34.2
            refine px_iload hG dX11_rankOf_19 rfl ?_
            refine px_aload_n hG dX11_rankOf_21 rfl ?_
            refine gr_40_4 hG dX11_rankOf_22 fl_X11_13 R31 ?_
            refine px_iload_n hG dX11_rankOf_25 rfl ?_
            refine al_41 hG dX11_rankOf_26 R31 (by omega) (fun x40 ex40 lx40 ux40 => ?_)
            have J75_42 : ((v4_29 ≥ x40)) → G 75 [some (.inr (.inr (40, 0))), some (.inr (.inl v1_28)), none, some (.inl v3_11), none] [] 122 s30 := by
              intro inv43
              refine px_aload_n hG dX11_rankOf_75 rfl ?_
              refine gr_40_10 hG dX11_rankOf_76 fl_X11_33 R31 ?_
              refine px_aload_n hG dX11_rankOf_79 rfl ?_
              refine gr_40_4 hG dX11_rankOf_80 fl_X11_13 R31 ?_
              refine px_iload_n hG dX11_rankOf_83 rfl ?_
              refine al_41 hG dX11_rankOf_84 R31 (by omega) (fun x44 ex44 lx44 ux44 => ?_)
              refine px_dup2 hG dX11_rankOf_85 ?_
              refine al_47 hG dX11_rankOf_86 R31 (by omega) (fun x45 ex45 lx45 ux45 => ?_)
              have X5 := ex45
              have Y5 := pm_wb_at W X5 (by omega) (by omega)
              refine px_iconst hG dX11_rankOf_87 ?_
              refine px_iadd hG dX11_rankOf_88 ?_
              refine as_47 hG dX11_rankOf_89 R31 (by omega) (by omega) (fun s46 qs46 Rs46 => ?_)
              have Fs46 := pm_Fr_up (F32) qs46 (M := [(47, none), (48, none)]) rfl
              have jj47 := pm_nec qs46 (c' := 40) (r' := 0) (i' := 0) (by decide)
              have jj48 := pm_nec qs46 (c' := 40) (r' := 0) (i' := 1) (by decide)
              have jj49 := pm_nec qs46 (c' := 40) (r' := 0) (i' := 2) (by decide)
              have jj50 := pm_nec qs46 (c' := 40) (r' := 0) (i' := 3) (by decide)
              have W3 := pm_wb_up W qs46 X5 (by omega) (by omega)
              refine px_iinc hG dX11_rankOf_90 (Nat.le_of_ble_eq_true rfl) rfl (L2 := [some (.inr (.inr (40, 0))), some (.inr (.inl v1_28)), none, some (.inl (v3_11 + 1)), none]) rfl ?_
              refine px_goto hG dX11_rankOf_93 (tgt := 8) (by decide) ?_
              exact ih15 v1_28 (v3_11 + 1) s46 Rs46 Fs46 (⟨by omega, pm_wb_mono W3 (by omega)⟩) (by omega)
            refine px_ic_ge hG dX11_rankOf_27 (tgt := 75) (by decide) ⟨by omega, by omega⟩ ⟨by omega, by omega⟩ (fun c41 => ?_) (fun c41 => ?_)
            · refine px_weak hG (L2 := [some (.inr (.inr (40, 0))), some (.inr (.inl v1_28)), none, some (.inl v3_11), none]) ⟨Or.inr rfl, Or.inr rfl, Or.inr rfl, Or.inr rfl, Or.inl rfl, trivial⟩ ?_
              exact J75_42  (by omega)
            · refine px_aload_n hG dX11_rankOf_30 rfl ?_
              refine gr_40_10 hG dX11_rankOf_31 fl_X11_33 R31 ?_
              refine px_iload hG dX11_rankOf_34 rfl ?_
              refine px_dup2 hG dX11_rankOf_36 ?_
              refine al_47 hG dX11_rankOf_37 R31 (by omega) (fun x51 ex51 lx51 ux51 => ?_)
              have X := ex51
              have Y := pm_wb_at W X (by omega) (by omega)
              refine px_iconst hG dX11_rankOf_38 ?_
              refine px_iadd hG dX11_rankOf_39 ?_
              refine as_47 hG dX11_rankOf_40 R31 (by omega) (by omega) (fun s52 qs52 Rs52 => ?_)
              have Fs52 := pm_Fr_up (F32) qs52 (M := [(47, none), (48, none)]) rfl
              have jj53 := pm_nec qs52 (c' := 40) (r' := 0) (i' := 0) (by decide)
              have jj54 := pm_nec qs52 (c' := 40) (r' := 0) (i' := 1) (by decide)
              have jj55 := pm_nec qs52 (c' := 40) (r' := 0) (i' := 2) (by decide)
              have jj56 := pm_nec qs52 (c' := 40) (r' := 0) (i' := 3) (by decide)
              have E1 := qs52
              refine px_lload_n hG dX11_rankOf_41 rfl ?_
              refine px_aload_n hG dX11_rankOf_42 rfl ?_
              refine px_aload_n hG dX11_rankOf_43 rfl ?_
              refine gi_40_1 hG dX11_rankOf_44 fl_X11_7 Rs52 (fun x57 ex57 lx57 ux57 => ?_)
              have ex57 : s0 40 0 1 = x57 := (Fs52 40 0 1 rfl).symm.trans ex57
              refine px_aload_n hG dX11_rankOf_47 rfl ?_
              refine gi_40_3 hG dX11_rankOf_48 fl_X11_110 Rs52 (fun x58 ex58 lx58 ux58 => ?_)
              have ex58 : s0 40 0 3 = x58 := (Fs52 40 0 3 rfl).symm.trans ex58
              refine px_iload_n hG dX11_rankOf_51 rfl ?_
              refine px_isub hG dX11_rankOf_52 ?_
              refine jv2 hG dX11_rankOf_53 ct_X11_finishes lk_X11_155 ⟨rfl, rfl⟩ (by decide) ⟨Nat.le_of_ble_eq_true rfl, Nat.le_of_ble_eq_true rfl, Nat.le_of_ble_eq_true rfl⟩ (Nat.le_of_ble_eq_true rfl) ⟨x57, (x58 - v3_11), rfl, rfl, Rs52, ⟨by omega, (pm_J2_fr Fs52 rfl J2)⟩⟩ (fun r59 t61 pr59 => ?_)
              obtain ⟨z62, rfl, Rt61, Ft61⟩ := pr59 _ _ rfl
              have Ff63 := pm_Fr_tr Fs52 Ft61 (M := [(47, none), (48, none)]) rfl
              have jj64 := Ft61 40 0 0 rfl
              have jj65 := Ft61 40 0 1 rfl
              have jj66 := Ft61 40 0 2 rfl
              have jj67 := Ft61 40 0 3 rfl
              show G 56 [some (.inr (.inr (40, 0))), some (.inr (.inl v1_28)), none, some (.inl v3_11), some (.inl v4_29)] [.inr (.inl z62), .inr (.inl v1_28)] 122 t61
              have E2 := fun i => Ft61 47 0 i rfl
              refine px_ladd hG dX11_rankOf_56 ?_
              refine px_lstore_n hG dX11_rankOf_57 (Nat.le_of_ble_eq_true rfl) (L2 := [some (.inr (.inr (40, 0))), some (.inr (.inl (v1_28 + z62))), none, some (.inl v3_11), some (.inl v4_29)]) rfl ?_
              refine px_aload_n hG dX11_rankOf_58 rfl ?_
              refine gr_40_10 hG dX11_rankOf_59 fl_X11_33 Rt61 ?_
              refine px_iload hG dX11_rankOf_62 rfl ?_
              refine px_dup2 hG dX11_rankOf_64 ?_
              refine al_47 hG dX11_rankOf_65 Rt61 (by omega) (fun x68 ex68 lx68 ux68 => ?_)
              have X2 := ex68
              have Y2 := E2 v4_29
              have Y3 := pm_at E1
              refine px_iconst hG dX11_rankOf_66 ?_
              refine px_isub hG dX11_rankOf_67 ?_
              refine as_47 hG dX11_rankOf_68 Rt61 (by omega) (by omega) (fun s69 qs69 Rs69 => ?_)
              have Fs69 := pm_Fr_up (Ff63) qs69 (M := [(47, none), (48, none)]) rfl
              have jj70 := pm_nec qs69 (c' := 40) (r' := 0) (i' := 0) (by decide)
              have jj71 := pm_nec qs69 (c' := 40) (r' := 0) (i' := 1) (by decide)
              have jj72 := pm_nec qs69 (c' := 40) (r' := 0) (i' := 2) (by decide)
              have jj73 := pm_nec qs69 (c' := 40) (r' := 0) (i' := 3) (by decide)
              have E3 := qs69
              have W2 := pm_wb_eq (pm_incdec E1 E2 E3 X X2) W
              refine px_iinc hG dX11_rankOf_69 (Nat.le_of_ble_eq_true rfl) rfl (L2 := [some (.inr (.inr (40, 0))), some (.inr (.inl (v1_28 + z62))), none, some (.inl v3_11), some (.inl (v4_29 + 1))]) rfl ?_
              refine px_goto hG dX11_rankOf_72 (tgt := 19) (by decide) ?_
              exact ih33 (v1_28 + z62) (v4_29 + 1) s69 Rs69 Fs69 (⟨by omega, W2⟩) (by omega)
        exact L19 _ v1_10 1 s12 R13 F14 (⟨by omega, W⟩) (Nat.lt_succ_self _)
  exact L8 _ 0 1 t3 Rt3 Ff5 (⟨by omega, pm_wb_0 W (by omega)⟩) (Nat.lt_succ_self _))
def pre_X11_rank (as : List pm_V) (n : Nat) (σ : pm_H) : Prop := as = [.inr (.inr (40, 0))] ∧ n = 122 ∧ pm_Rng σ ∧ (pm_J2 σ)
def po_X11_rank (as : List pm_V) (_ : Nat) (σ : pm_H) (r : Option pm_V) (τ : pm_H) : Prop := as = [.inr (.inr (40, 0))] → ∃ v : Int, r = some (.inr (.inl v)) ∧ pm_Rng τ ∧ pm_Fr [(43, none), (44, none), (47, none), (48, none)] σ τ
set_option maxRecDepth 20000 in
set_option maxHeartbeats 4000000 in
theorem ct_X11_rank : pm_Ct yX11_rank cX11_rank 1 (some .long) 4 0 pre_X11_rank po_X11_rank := pm_sound (ini := false) (by decide +kernel) pk_X11_rank (fun h => absurd h (by decide)) (by
  rintro as n s0 ⟨rfl, rfl, R0, hpre⟩
  refine ⟨by decide, Nat.le_of_ble_eq_true rfl, fun G hG => ?_⟩
  have hG : pm_Rules (RX11, 4, 122, cX11_rank, -1, (fun _ => 0), false, (some .long), po_X11_rank [.inr (.inr (40, 0))] 122 s0) G := hG
  show G 0 [some (.inr (.inr (40, 0)))] [] 122 s0
  have B0 := pb_40_0 R0
  have B1 := pb_40_1 R0
  have B2 := pb_40_2 R0
  have B3 := pb_40_3 R0
  have J2 := hpre
  have JK := J2.1
  have JW := J2.2
  refine px_aload_n hG dX11_rank_0 rfl ?_
  refine jv0 hG dX11_rank_1 ct_X11_isWell lk_X11_167 ⟨rfl, rfl⟩ (by decide) ⟨Nat.le_of_ble_eq_true rfl, Nat.le_of_ble_eq_true rfl, Nat.le_of_ble_eq_true rfl⟩ (Nat.le_of_ble_eq_true rfl) ⟨rfl, rfl, R0, J2⟩ (fun r1 t3 pr1 => ?_)
  obtain ⟨x4, rfl, Rt3, Ft3, br1⟩ := pr1 rfl
  have Ff5 := pm_Fr_mono Ft3 (M := [(43, none), (44, none), (47, none), (48, none)]) rfl
  have jj6 := Ft3 40 0 0 rfl
  have jj7 := Ft3 40 0 1 rfl
  have jj8 := Ft3 40 0 2 rfl
  have jj9 := Ft3 40 0 3 rfl
  show G 4 [some (.inr (.inr (40, 0)))] [.inl x4] 122 t3
  refine px_if_eq hG dX11_rank_4 (tgt := 14) (by decide) ⟨by omega, by omega⟩ (fun c10 => ?_) (fun c10 => ?_)
  · refine px_ldc2 hG dX11_rank_14 cn_X11_174 ?_
    show G 17 [some (.inr (.inr (40, 0)))] [.inr (.inl (-2))] 122 t3
    have jj11 := Ff5 40 0 0 rfl
    have jj12 := Ff5 40 0 1 rfl
    have jj13 := Ff5 40 0 2 rfl
    have jj14 := Ff5 40 0 3 rfl
    exact px_lret (st := []) hG dX11_rank_17 rfl rfl (fun _ => by exact ⟨_, rfl, Rt3, Ff5⟩)
  · refine px_aload_n hG dX11_rank_7 rfl ?_
    refine jv0 hG dX11_rank_8 ct_X11_rankOf lk_X11_170 ⟨rfl, rfl⟩ (by decide) ⟨Nat.le_of_ble_eq_true rfl, Nat.le_of_ble_eq_true rfl, Nat.le_of_ble_eq_true rfl⟩ (Nat.le_of_ble_eq_true rfl) ⟨rfl, rfl, Rt3, (pm_J2_fr Ff5 rfl J2)⟩ (fun r15 t17 pr15 => ?_)
    obtain ⟨z18, rfl, Rt17, Ft17⟩ := pr15 rfl
    have Ff19 := pm_Fr_tr Ff5 Ft17 (M := [(43, none), (44, none), (47, none), (48, none)]) rfl
    have jj20 := Ft17 40 0 0 rfl
    have jj21 := Ft17 40 0 1 rfl
    have jj22 := Ft17 40 0 2 rfl
    have jj23 := Ft17 40 0 3 rfl
    show G 11 [some (.inr (.inr (40, 0)))] [.inr (.inl z18)] 122 t17
    refine px_goto hG dX11_rank_11 (tgt := 17) (by decide) ?_
    have jj24 := Ff19 40 0 0 rfl
    have jj25 := Ff19 40 0 1 rfl
    have jj26 := Ff19 40 0 2 rfl
    have jj27 := Ff19 40 0 3 rfl
    exact px_lret (st := []) hG dX11_rank_17 rfl rfl (fun _ => by exact ⟨_, rfl, Rt17, Ff19⟩))
def pre_X11_read (as : List pm_V) (n : Nat) (σ : pm_H) : Prop := ∃ sh i1 : Int, as = [.inr (.inr (40, 0)), .inl sh, .inl i1] ∧ n = 122 ∧ pm_Rng σ ∧ (0 ≤ sh ∧ sh ≤ 3 ∧ 0 ≤ i1 ∧ i1 ≤ 19)
def po_X11_read (as : List pm_V) (_ : Nat) (σ : pm_H) (r : Option pm_V) (τ : pm_H) : Prop := ∀ sh i1 : Int, as = [.inr (.inr (40, 0)), .inl sh, .inl i1] → ∃ v : Int, r = some (.inl v) ∧ σ = τ ∧ (v = σ 66 0 (20 * sh + i1) ∧ pm_in v)
set_option maxRecDepth 20000 in
set_option maxHeartbeats 4000000 in
theorem ct_X11_read : pm_Ct yX11_read cX11_read 3 (some .int) 0 0 pre_X11_read po_X11_read := pm_sound (ini := false) (by decide +kernel) pk_X11_read (fun h => absurd h (by decide)) (by
  rintro as n s0 ⟨sh, i1, rfl, rfl, R0, hpre⟩
  refine ⟨by decide, Nat.le_of_ble_eq_true rfl, fun G hG => ?_⟩
  have hG : pm_Rules (RX11, 0, 122, cX11_read, -1, (fun _ => 0), false, (some .int), po_X11_read [.inr (.inr (40, 0)), .inl sh, .inl i1] 122 s0) G := hG
  show G 0 [some (.inr (.inr (40, 0))), some (.inl sh), some (.inl i1)] [] 122 s0
  refine px_aload_n hG dX11_read_0 rfl ?_
  refine gr_40_29 hG dX11_read_1 fl_X11_91 R0 ?_
  refine px_bipush hG dX11_read_4 (by decide) ?_
  refine px_iload_n hG dX11_read_6 rfl ?_
  refine px_imul hG dX11_read_7 ?_
  refine px_iload_n hG dX11_read_8 rfl ?_
  refine px_iadd hG dX11_read_9 ?_
  refine al_66 hG dX11_read_10 R0 (by omega) (fun x1 ex1 lx1 ux1 => ?_)
  exact px_iret (st := []) hG dX11_read_11 rfl rfl (fun sh_1 i1_1 ee => by cases ee; exact ⟨_, rfl, rfl, by omega⟩))
def pre_X11_isSheet (as : List pm_V) (n : Nat) (σ : pm_H) : Prop := ∃ sh la : Int, as = [.inl sh, .inl la] ∧ n = 122 ∧ pm_Rng σ ∧ (pm_in sh ∧ pm_in la)
def po_X11_isSheet (as : List pm_V) (_ : Nat) (σ : pm_H) (r : Option pm_V) (τ : pm_H) : Prop := ∀ sh la : Int, as = [.inl sh, .inl la] → ∃ v : Int, r = some (.inl v) ∧ σ = τ ∧ ((v = 0 ∨ v = 1) ∧ (v = 1 → 0 ≤ sh ∧ sh ≤ 3 ∧ 0 ≤ la ∧ la ≤ 2) ∧ (v = 0 → sh < 0 ∨ 3 < sh ∨ la < 0 ∨ 2 < la))
set_option maxRecDepth 20000 in
set_option maxHeartbeats 4000000 in
theorem ct_X11_isSheet : pm_Ct yX11_isSheet cX11_isSheet 2 (some .boolean) 1 0 pre_X11_isSheet po_X11_isSheet := pm_sound (ini := false) (by decide +kernel) pk_X11_isSheet (fun h => absurd h (by decide)) (by
  rintro as n s0 ⟨sh, la, rfl, rfl, R0, hpre⟩
  refine ⟨by decide, Nat.le_of_ble_eq_true rfl, fun G hG => ?_⟩
  have hG : pm_Rules (RX11, 1, 122, cX11_isSheet, -1, (fun _ => 0), false, (some .boolean), po_X11_isSheet [.inl sh, .inl la] 122 s0) G := hG
  show G 0 [some (.inl sh), some (.inl la)] [] 122 s0
  refine px_iload_n hG dX11_isSheet_0 rfl ?_
  refine px_i2l hG dX11_isSheet_1 ⟨by omega, by omega⟩ ?_
  refine px_lconst hG dX11_isSheet_2 ?_
  show G 3 [some (.inl sh), some (.inl la)] [.inr (.inl 0), .inr (.inl sh)] 122 s0
  refine px_ldc2 hG dX11_isSheet_3 cn_X11_254 ?_
  show G 6 [some (.inl sh), some (.inl la)] [.inr (.inl 3), .inr (.inl 0), .inr (.inl sh)] 122 s0
  refine js3 hG dX11_isSheet_6 ct_X11_in lk_X11_96 ⟨Nat.le_of_ble_eq_true rfl, Nat.le_of_ble_eq_true rfl, Nat.le_of_ble_eq_true rfl⟩ (Nat.le_of_ble_eq_true rfl) ⟨sh, 0, 3, rfl, rfl, R0, by omega⟩ (fun r1 t2 pr1 => ?_)
  obtain ⟨x3, rfl, rfl, br1⟩ := pr1 _ _ _ rfl
  show G 9 [some (.inl sh), some (.inl la)] [.inl x3] 122 s0
  refine px_if_eq hG dX11_isSheet_9 (tgt := 28) (by decide) ⟨by omega, by omega⟩ (fun c4 => ?_) (fun c4 => ?_)
  · refine px_iconst hG dX11_isSheet_28 ?_
    exact px_zret (st := []) hG dX11_isSheet_29 rfl (by omega) rfl (fun sh_1 la_1 ee => by cases ee; exact ⟨_, rfl, rfl, by omega⟩)
  · refine px_iload_n hG dX11_isSheet_12 rfl ?_
    refine px_i2l hG dX11_isSheet_13 ⟨by omega, by omega⟩ ?_
    refine px_lconst hG dX11_isSheet_14 ?_
    show G 15 [some (.inl sh), some (.inl la)] [.inr (.inl 0), .inr (.inl la)] 122 s0
    refine px_ldc2 hG dX11_isSheet_15 cn_X11_94 ?_
    show G 18 [some (.inl sh), some (.inl la)] [.inr (.inl 2), .inr (.inl 0), .inr (.inl la)] 122 s0
    refine js3 hG dX11_isSheet_18 ct_X11_in lk_X11_96 ⟨Nat.le_of_ble_eq_true rfl, Nat.le_of_ble_eq_true rfl, Nat.le_of_ble_eq_true rfl⟩ (Nat.le_of_ble_eq_true rfl) ⟨la, 0, 2, rfl, rfl, R0, by omega⟩ (fun r5 t6 pr5 => ?_)
    obtain ⟨x7, rfl, rfl, br5⟩ := pr5 _ _ _ rfl
    show G 21 [some (.inl sh), some (.inl la)] [.inl x7] 122 s0
    refine px_if_eq hG dX11_isSheet_21 (tgt := 28) (by decide) ⟨by omega, by omega⟩ (fun c8 => ?_) (fun c8 => ?_)
    · refine px_iconst hG dX11_isSheet_28 ?_
      exact px_zret (st := []) hG dX11_isSheet_29 rfl (by omega) rfl (fun sh_1 la_1 ee => by cases ee; exact ⟨_, rfl, rfl, by omega⟩)
    · refine px_iconst hG dX11_isSheet_24 ?_
      refine px_goto hG dX11_isSheet_25 (tgt := 29) (by decide) ?_
      exact px_zret (st := []) hG dX11_isSheet_29 rfl (by omega) rfl (fun sh_1 la_1 ee => by cases ee; exact ⟨_, rfl, rfl, by omega⟩))
def pre_X11_against (as : List pm_V) (n : Nat) (σ : pm_H) : Prop := ∃ sh la f0 sz : Int, as = [.inr (.inr (40, 0)), .inl sh, .inl la, .inl f0, .inl sz] ∧ n = 122 ∧ pm_Rng σ ∧ (0 ≤ sh ∧ sh ≤ 3 ∧ 0 ≤ la ∧ la ≤ 2 ∧ pm_in f0 ∧ -100 ≤ sz ∧ sz ≤ 1000)
def po_X11_against (as : List pm_V) (_ : Nat) (σ : pm_H) (r : Option pm_V) (τ : pm_H) : Prop := ∀ sh la f0 sz : Int, as = [.inr (.inr (40, 0)), .inl sh, .inl la, .inl f0, .inl sz] → ∃ v : Int, r = some (.inl v) ∧ σ = τ ∧ ((v = -11 ∧ σ 64 0 sh = -1) ∨ (σ 64 0 sh ≠ -1 ∧ ((v = -12 ∧ σ 64 0 sh ≠ la) ∨ (σ 64 0 sh = la ∧ ((v = -13 ∧ (f0 < 0 ∨ σ 65 0 sh - sz < f0)) ∨ (v = 0 ∧ 0 ≤ f0 ∧ f0 ≤ σ 65 0 sh - sz ∧ σ 65 0 sh ≤ 20))))))
set_option maxRecDepth 20000 in
set_option maxHeartbeats 4000000 in
theorem ct_X11_against : pm_Ct yX11_against cX11_against 5 (some .int) 1 0 pre_X11_against po_X11_against := pm_sound (ini := false) (by decide +kernel) pk_X11_against (fun h => absurd h (by decide)) (by
  rintro as n s0 ⟨sh, la, f0, sz, rfl, rfl, R0, hpre⟩
  refine ⟨by decide, Nat.le_of_ble_eq_true rfl, fun G hG => ?_⟩
  have hG : pm_Rules (RX11, 1, 122, cX11_against, -1, (fun _ => 0), false, (some .int), po_X11_against [.inr (.inr (40, 0)), .inl sh, .inl la, .inl f0, .inl sz] 122 s0) G := hG
  show G 0 [some (.inr (.inr (40, 0))), some (.inl sh), some (.inl la), some (.inl f0), some (.inl sz)] [] 122 s0
  refine px_aload_n hG dX11_against_0 rfl ?_
  refine gr_40_27 hG dX11_against_1 fl_X11_85 R0 ?_
  refine px_iload_n hG dX11_against_4 rfl ?_
  refine al_64 hG dX11_against_5 R0 (by omega) (fun x1 ex1 lx1 ux1 => ?_)
  refine px_iload_n hG dX11_against_6 rfl ?_
  refine px_ic_eq hG dX11_against_7 (tgt := 27) (by decide) ⟨by omega, by omega⟩ ⟨by omega, by omega⟩ (fun c2 => ?_) (fun c2 => ?_)
  · refine px_iload_n hG dX11_against_27 rfl ?_
    refine px_i2l hG dX11_against_28 ⟨by omega, by omega⟩ ?_
    refine px_lconst hG dX11_against_29 ?_
    show G 30 [some (.inr (.inr (40, 0))), some (.inl sh), some (.inl la), some (.inl f0), some (.inl sz)] [.inr (.inl 0), .inr (.inl f0)] 122 s0
    refine px_aload_n hG dX11_against_30 rfl ?_
    refine gr_40_28 hG dX11_against_31 fl_X11_88 R0 ?_
    refine px_iload_n hG dX11_against_34 rfl ?_
    refine al_65 hG dX11_against_35 R0 (by omega) (fun x3 ex3 lx3 ux3 => ?_)
    refine px_iload hG dX11_against_36 rfl ?_
    refine px_isub hG dX11_against_38 ?_
    refine px_i2l hG dX11_against_39 ⟨by omega, by omega⟩ ?_
    refine js3 hG dX11_against_40 ct_X11_in lk_X11_96 ⟨Nat.le_of_ble_eq_true rfl, Nat.le_of_ble_eq_true rfl, Nat.le_of_ble_eq_true rfl⟩ (Nat.le_of_ble_eq_true rfl) ⟨f0, 0, (x3 - sz), rfl, rfl, R0, by omega⟩ (fun r4 t5 pr4 => ?_)
    obtain ⟨x6, rfl, rfl, br4⟩ := pr4 _ _ _ rfl
    show G 43 [some (.inr (.inr (40, 0))), some (.inl sh), some (.inl la), some (.inl f0), some (.inl sz)] [.inl x6] 122 s0
    refine px_if_eq hG dX11_against_43 (tgt := 50) (by decide) ⟨by omega, by omega⟩ (fun c7 => ?_) (fun c7 => ?_)
    · refine px_bipush hG dX11_against_50 (by decide) ?_
      exact px_iret (st := []) hG dX11_against_52 rfl rfl (fun sh_1 la_1 f0_1 sz_1 ee => by cases ee; exact ⟨_, rfl, rfl, by omega⟩)
    · refine px_iconst hG dX11_against_46 ?_
      refine px_goto hG dX11_against_47 (tgt := 52) (by decide) ?_
      exact px_iret (st := []) hG dX11_against_52 rfl rfl (fun sh_1 la_1 f0_1 sz_1 ee => by cases ee; exact ⟨_, rfl, rfl, by omega⟩)
  · refine px_aload_n hG dX11_against_10 rfl ?_
    refine gr_40_27 hG dX11_against_11 fl_X11_85 R0 ?_
    refine px_iload_n hG dX11_against_14 rfl ?_
    refine al_64 hG dX11_against_15 R0 (by omega) (fun x8 ex8 lx8 ux8 => ?_)
    refine px_if_ge hG dX11_against_16 (tgt := 24) (by decide) ⟨by omega, by omega⟩ (fun c9 => ?_) (fun c9 => ?_)
    · refine px_bipush hG dX11_against_24 (by decide) ?_
      exact px_iret (st := []) hG dX11_against_26 rfl rfl (fun sh_1 la_1 f0_1 sz_1 ee => by cases ee; exact ⟨_, rfl, rfl, by omega⟩)
    · refine px_bipush hG dX11_against_19 (by decide) ?_
      refine px_goto hG dX11_against_21 (tgt := 26) (by decide) ?_
      exact px_iret (st := []) hG dX11_against_26 rfl rfl (fun sh_1 la_1 f0_1 sz_1 ee => by cases ee; exact ⟨_, rfl, rfl, by omega⟩))
def pre_X11_sheet (as : List pm_V) (n : Nat) (σ : pm_H) : Prop := ∃ aa ab ac : Int, as = [.inr (.inr (40, 0)), .inl aa, .inl ab, .inl ac] ∧ n = 122 ∧ pm_Rng σ ∧ ((pm_in aa ∧ pm_in ab ∧ pm_in ac) ∧ pm_J2 σ)
def po_X11_sheet (as : List pm_V) (_ : Nat) (σ : pm_H) (r : Option pm_V) (τ : pm_H) : Prop := ∀ aa ab ac : Int, as = [.inr (.inr (40, 0)), .inl aa, .inl ab, .inl ac] → ∃ v : Int, r = some (.inl v) ∧ pm_Rng τ ∧ pm_Fr [(64, none), (65, none), (66, none)] σ τ
set_option maxRecDepth 20000 in
set_option maxHeartbeats 4000000 in
theorem ct_X11_sheet : pm_Ct yX11_sheet cX11_sheet 5 (some .int) 2 0 pre_X11_sheet po_X11_sheet := pm_sound (ini := false) (by decide +kernel) pk_X11_sheet (fun h => absurd h (by decide)) (by
  rintro as n s0 ⟨aa, ab, ac, rfl, rfl, R0, hpre⟩
  refine ⟨by decide, Nat.le_of_ble_eq_true rfl, fun G hG => ?_⟩
  have hG : pm_Rules (RX11, 2, 122, cX11_sheet, -1, (fun _ => 0), false, (some .int), po_X11_sheet [.inr (.inr (40, 0)), .inl aa, .inl ab, .inl ac] 122 s0) G := hG
  show G 0 [some (.inr (.inr (40, 0))), some (.inl aa), some (.inl ab), some (.inl ac), none] [] 122 s0
  have B0 := pb_40_0 R0
  have B1 := pb_40_1 R0
  have B2 := pb_40_2 R0
  have B3 := pb_40_3 R0
  have J2 := hpre.2
  have HP := hpre.1
  have JK := J2.1
  have JW := J2.2
  refine px_iload_n hG dX11_sheet_0 rfl ?_
  refine px_iload_n hG dX11_sheet_1 rfl ?_
  refine js2 hG dX11_sheet_2 ct_X11_isSheet lk_X11_211 ⟨Nat.le_of_ble_eq_true rfl, Nat.le_of_ble_eq_true rfl, Nat.le_of_ble_eq_true rfl⟩ (Nat.le_of_ble_eq_true rfl) ⟨aa, ab, rfl, rfl, R0, by omega⟩ (fun r1 t2 pr1 => ?_)
  obtain ⟨x3, rfl, rfl, br1⟩ := pr1 _ _ rfl
  show G 5 [some (.inr (.inr (40, 0))), some (.inl aa), some (.inl ab), some (.inl ac), none] [.inl x3] 122 s0
  refine px_if_eq hG dX11_sheet_5 (tgt := 14) (by decide) ⟨by omega, by omega⟩ (fun c4 => ?_) (fun c4 => ?_)
  · refine px_iconst hG dX11_sheet_14 ?_
    exact px_iret (st := []) hG dX11_sheet_15 rfl rfl (fun aa_1 ab_1 ac_1 ee => by cases ee; exact ⟨_, rfl, R0, pm_Fr_rf⟩)
  · refine px_iload_n hG dX11_sheet_8 rfl ?_
    refine px_bipush hG dX11_sheet_9 (by decide) ?_
    refine px_ic_le hG dX11_sheet_11 (tgt := 16) (by decide) ⟨by omega, by omega⟩ ⟨by omega, by omega⟩ (fun c5 => ?_) (fun c5 => ?_)
    · refine px_iload_n hG dX11_sheet_16 rfl ?_
      refine px_if_ge hG dX11_sheet_17 (tgt := 23) (by decide) ⟨by omega, by omega⟩ (fun c6 => ?_) (fun c6 => ?_)
      · refine px_aload_n hG dX11_sheet_23 rfl ?_
        refine gr_40_27 hG dX11_sheet_24 fl_X11_85 R0 ?_
        refine px_iload_n hG dX11_sheet_27 rfl ?_
        refine px_iload_n hG dX11_sheet_28 rfl ?_
        refine as_64 hG dX11_sheet_29 R0 (by omega) (by omega) (fun s7 qs7 Rs7 => ?_)
        have Fs7 := pm_Fr_up ((pm_Fr_rf : pm_Fr [(64, none), (65, none), (66, none)] s0 s0)) qs7 (M := [(64, none), (65, none), (66, none)]) rfl
        have jj8 := pm_nec qs7 (c' := 40) (r' := 0) (i' := 0) (by decide)
        have jj9 := pm_nec qs7 (c' := 40) (r' := 0) (i' := 1) (by decide)
        have jj10 := pm_nec qs7 (c' := 40) (r' := 0) (i' := 2) (by decide)
        have jj11 := pm_nec qs7 (c' := 40) (r' := 0) (i' := 3) (by decide)
        refine px_aload_n hG dX11_sheet_30 rfl ?_
        refine gr_40_28 hG dX11_sheet_31 fl_X11_88 Rs7 ?_
        refine px_iload_n hG dX11_sheet_34 rfl ?_
        refine px_iload_n hG dX11_sheet_35 rfl ?_
        refine as_65 hG dX11_sheet_36 Rs7 (by omega) (by omega) (fun s12 qs12 Rs12 => ?_)
        have Fs12 := pm_Fr_up (Fs7) qs12 (M := [(64, none), (65, none), (66, none)]) rfl
        have jj13 := pm_nec qs12 (c' := 40) (r' := 0) (i' := 0) (by decide)
        have jj14 := pm_nec qs12 (c' := 40) (r' := 0) (i' := 1) (by decide)
        have jj15 := pm_nec qs12 (c' := 40) (r' := 0) (i' := 2) (by decide)
        have jj16 := pm_nec qs12 (c' := 40) (r' := 0) (i' := 3) (by decide)
        refine px_iconst hG dX11_sheet_37 ?_
        refine px_istore hG dX11_sheet_38 (Nat.le_of_ble_eq_true rfl) (L2 := [some (.inr (.inr (40, 0))), some (.inl aa), some (.inl ab), some (.inl ac), some (.inl 0)]) rfl ?_
        have L40 : ∀ (N : Nat) (v4_17 : Int) (s18 : pm_H), pm_Rng s18 → pm_Fr [(64, none), (65, none), (66, none)] s0 s18 → ((0 ≤ v4_17 ∧ v4_17 ≤ 10000)) → (10001 - v4_17).toNat < N → G 40 [some (.inr (.inr (40, 0))), some (.inl aa), none, some (.inl ac), some (.inl v4_17)] [] 122 s18 := by
          intro N
          induction N with
          | zero => intro v4_17 s18 R19 F20 inv22 hm23; exact absurd hm23 (Nat.not_lt_zero _)
          | succ N ih21 =>
            intro v4_17 s18 R19 F20 inv22 hm23
            have jj24 := F20 40 0 0 rfl
            have jj25 := F20 40 0 1 rfl
            have jj26 := F20 40 0 2 rfl
            have jj27 := F20 40 0 3 rfl
            refine px_iload hG dX11_sheet_40 rfl ?_
            refine px_bipush hG dX11_sheet_42 (by decide) ?_
            refine px_ic_ge hG dX11_sheet_44 (tgt := 66) (by decide) ⟨by omega, by omega⟩ ⟨by omega, by omega⟩ (fun c28 => ?_) (fun c28 => ?_)
            · refine px_iload_n hG dX11_sheet_66 rfl ?_
              have jj29 := F20 40 0 0 rfl
              have jj30 := F20 40 0 1 rfl
              have jj31 := F20 40 0 2 rfl
              have jj32 := F20 40 0 3 rfl
              exact px_iret (st := []) hG dX11_sheet_67 rfl rfl (fun aa_1 ab_1 ac_1 ee => by cases ee; exact ⟨_, rfl, R19, F20⟩)
            · refine px_aload_n hG dX11_sheet_47 rfl ?_
              refine gr_40_29 hG dX11_sheet_48 fl_X11_91 R19 ?_
              refine px_bipush hG dX11_sheet_51 (by decide) ?_
              refine px_iload_n hG dX11_sheet_53 rfl ?_
              refine px_imul hG dX11_sheet_54 ?_
              refine px_iload hG dX11_sheet_55 rfl ?_
              refine px_iadd hG dX11_sheet_57 ?_
              refine px_iconst hG dX11_sheet_58 ?_
              refine as_66 hG dX11_sheet_59 R19 (by omega) (fun s33 qs33 Rs33 => ?_)
              have Fs33 := pm_Fr_up (F20) qs33 (M := [(64, none), (65, none), (66, none)]) rfl
              have jj34 := pm_nec qs33 (c' := 40) (r' := 0) (i' := 0) (by decide)
              have jj35 := pm_nec qs33 (c' := 40) (r' := 0) (i' := 1) (by decide)
              have jj36 := pm_nec qs33 (c' := 40) (r' := 0) (i' := 2) (by decide)
              have jj37 := pm_nec qs33 (c' := 40) (r' := 0) (i' := 3) (by decide)
              refine px_iinc hG dX11_sheet_60 (Nat.le_of_ble_eq_true rfl) rfl (L2 := [some (.inr (.inr (40, 0))), some (.inl aa), none, some (.inl ac), some (.inl (v4_17 + 1))]) rfl ?_
              refine px_goto hG dX11_sheet_63 (tgt := 40) (by decide) ?_
              exact ih21 (v4_17 + 1) s33 Rs33 Fs33 (by omega) (by omega)
        refine px_weak hG (L2 := [some (.inr (.inr (40, 0))), some (.inl aa), none, some (.inl ac), some (.inl 0)]) ⟨Or.inr rfl, Or.inr rfl, Or.inl rfl, Or.inr rfl, Or.inr rfl, trivial⟩ ?_
        exact L40 _ 0 s12 Rs12 Fs12 (by omega) (Nat.lt_succ_self _)
      · refine px_bipush hG dX11_sheet_20 (by decide) ?_
        exact px_iret (st := []) hG dX11_sheet_22 rfl rfl (fun aa_1 ab_1 ac_1 ee => by cases ee; exact ⟨_, rfl, R0, pm_Fr_rf⟩)
    · refine px_iconst hG dX11_sheet_14 ?_
      exact px_iret (st := []) hG dX11_sheet_15 rfl rfl (fun aa_1 ab_1 ac_1 ee => by cases ee; exact ⟨_, rfl, R0, pm_Fr_rf⟩))
def pre_X11_drop (as : List pm_V) (n : Nat) (σ : pm_H) : Prop := ∃ aa : Int, as = [.inr (.inr (40, 0)), .inl aa] ∧ n = 122 ∧ pm_Rng σ ∧ ((pm_in aa) ∧ pm_J2 σ)
def po_X11_drop (as : List pm_V) (_ : Nat) (σ : pm_H) (r : Option pm_V) (τ : pm_H) : Prop := ∀ aa : Int, as = [.inr (.inr (40, 0)), .inl aa] → ∃ v : Int, r = some (.inl v) ∧ pm_Rng τ ∧ pm_Fr [(64, none)] σ τ
set_option maxRecDepth 20000 in
set_option maxHeartbeats 4000000 in
theorem ct_X11_drop : pm_Ct yX11_drop cX11_drop 2 (some .int) 1 0 pre_X11_drop po_X11_drop := pm_sound (ini := false) (by decide +kernel) pk_X11_drop (fun h => absurd h (by decide)) (by
  rintro as n s0 ⟨aa, rfl, rfl, R0, hpre⟩
  refine ⟨by decide, Nat.le_of_ble_eq_true rfl, fun G hG => ?_⟩
  have hG : pm_Rules (RX11, 1, 122, cX11_drop, -1, (fun _ => 0), false, (some .int), po_X11_drop [.inr (.inr (40, 0)), .inl aa] 122 s0) G := hG
  show G 0 [some (.inr (.inr (40, 0))), some (.inl aa)] [] 122 s0
  have B0 := pb_40_0 R0
  have B1 := pb_40_1 R0
  have B2 := pb_40_2 R0
  have B3 := pb_40_3 R0
  have J2 := hpre.2
  have HP := hpre.1
  have JK := J2.1
  have JW := J2.2
  refine px_iload_n hG dX11_drop_0 rfl ?_
  refine px_i2l hG dX11_drop_1 ⟨by omega, by omega⟩ ?_
  refine px_lconst hG dX11_drop_2 ?_
  show G 3 [some (.inr (.inr (40, 0))), some (.inl aa)] [.inr (.inl 0), .inr (.inl aa)] 122 s0
  refine px_ldc2 hG dX11_drop_3 cn_X11_254 ?_
  show G 6 [some (.inr (.inr (40, 0))), some (.inl aa)] [.inr (.inl 3), .inr (.inl 0), .inr (.inl aa)] 122 s0
  refine js3 hG dX11_drop_6 ct_X11_in lk_X11_96 ⟨Nat.le_of_ble_eq_true rfl, Nat.le_of_ble_eq_true rfl, Nat.le_of_ble_eq_true rfl⟩ (Nat.le_of_ble_eq_true rfl) ⟨aa, 0, 3, rfl, rfl, R0, by omega⟩ (fun r1 t2 pr1 => ?_)
  obtain ⟨x3, rfl, rfl, br1⟩ := pr1 _ _ _ rfl
  show G 9 [some (.inr (.inr (40, 0))), some (.inl aa)] [.inl x3] 122 s0
  refine px_if_ne hG dX11_drop_9 (tgt := 14) (by decide) ⟨by omega, by omega⟩ (fun c4 => ?_) (fun c4 => ?_)
  · refine px_aload_n hG dX11_drop_14 rfl ?_
    refine gr_40_27 hG dX11_drop_15 fl_X11_85 R0 ?_
    refine px_iload_n hG dX11_drop_18 rfl ?_
    refine al_64 hG dX11_drop_19 R0 (by omega) (fun x5 ex5 lx5 ux5 => ?_)
    refine px_if_ge hG dX11_drop_20 (tgt := 26) (by decide) ⟨by omega, by omega⟩ (fun c6 => ?_) (fun c6 => ?_)
    · refine px_aload_n hG dX11_drop_26 rfl ?_
      refine gr_40_27 hG dX11_drop_27 fl_X11_85 R0 ?_
      refine px_iload_n hG dX11_drop_30 rfl ?_
      refine px_iconst hG dX11_drop_31 ?_
      refine as_64 hG dX11_drop_32 R0 (by omega) (by omega) (fun s7 qs7 Rs7 => ?_)
      have Fs7 := pm_Fr_up ((pm_Fr_rf : pm_Fr [(64, none)] s0 s0)) qs7 (M := [(64, none)]) rfl
      have jj8 := pm_nec qs7 (c' := 40) (r' := 0) (i' := 0) (by decide)
      have jj9 := pm_nec qs7 (c' := 40) (r' := 0) (i' := 1) (by decide)
      have jj10 := pm_nec qs7 (c' := 40) (r' := 0) (i' := 2) (by decide)
      have jj11 := pm_nec qs7 (c' := 40) (r' := 0) (i' := 3) (by decide)
      refine px_aload_n hG dX11_drop_33 rfl ?_
      refine gr_40_28 hG dX11_drop_34 fl_X11_88 Rs7 ?_
      refine px_iload_n hG dX11_drop_37 rfl ?_
      refine al_65 hG dX11_drop_38 Rs7 (by omega) (fun x12 ex12 lx12 ux12 => ?_)
      have jj13 := Fs7 40 0 0 rfl
      have jj14 := Fs7 40 0 1 rfl
      have jj15 := Fs7 40 0 2 rfl
      have jj16 := Fs7 40 0 3 rfl
      exact px_iret (st := []) hG dX11_drop_39 rfl rfl (fun aa_1 ee => by cases ee; exact ⟨_, rfl, Rs7, Fs7⟩)
    · refine px_bipush hG dX11_drop_23 (by decide) ?_
      exact px_iret (st := []) hG dX11_drop_25 rfl rfl (fun aa_1 ee => by cases ee; exact ⟨_, rfl, R0, pm_Fr_rf⟩)
  · refine px_iconst hG dX11_drop_12 ?_
    exact px_iret (st := []) hG dX11_drop_13 rfl rfl (fun aa_1 ee => by cases ee; exact ⟨_, rfl, R0, pm_Fr_rf⟩))
def pre_X11_item (as : List pm_V) (n : Nat) (σ : pm_H) : Prop := ∃ aa ab ac ad : Int, as = [.inr (.inr (40, 0)), .inl aa, .inl ab, .inl ac, .inl ad] ∧ n = 122 ∧ pm_Rng σ ∧ ((pm_in aa ∧ pm_in ab ∧ pm_in ac ∧ pm_in ad) ∧ pm_J2 σ)
def po_X11_item (as : List pm_V) (_ : Nat) (σ : pm_H) (r : Option pm_V) (τ : pm_H) : Prop := ∀ aa ab ac ad : Int, as = [.inr (.inr (40, 0)), .inl aa, .inl ab, .inl ac, .inl ad] → ∃ v : Int, r = some (.inl v) ∧ pm_Rng τ ∧ pm_Fr [(66, none)] σ τ
set_option maxRecDepth 20000 in
set_option maxHeartbeats 4000000 in
theorem ct_X11_item : pm_Ct yX11_item cX11_item 6 (some .int) 2 0 pre_X11_item po_X11_item := pm_sound (ini := false) (by decide +kernel) pk_X11_item (fun h => absurd h (by decide)) (by
  rintro as n s0 ⟨aa, ab, ac, ad, rfl, rfl, R0, hpre⟩
  refine ⟨by decide, Nat.le_of_ble_eq_true rfl, fun G hG => ?_⟩
  have hG : pm_Rules (RX11, 2, 122, cX11_item, -1, (fun _ => 0), false, (some .int), po_X11_item [.inr (.inr (40, 0)), .inl aa, .inl ab, .inl ac, .inl ad] 122 s0) G := hG
  show G 0 [some (.inr (.inr (40, 0))), some (.inl aa), some (.inl ab), some (.inl ac), some (.inl ad), none] [] 122 s0
  have B0 := pb_40_0 R0
  have B1 := pb_40_1 R0
  have B2 := pb_40_2 R0
  have B3 := pb_40_3 R0
  have J2 := hpre.2
  have HP := hpre.1
  have JK := J2.1
  have JW := J2.2
  refine px_iload_n hG dX11_item_0 rfl ?_
  refine px_iload_n hG dX11_item_1 rfl ?_
  refine js2 hG dX11_item_2 ct_X11_isSheet lk_X11_211 ⟨Nat.le_of_ble_eq_true rfl, Nat.le_of_ble_eq_true rfl, Nat.le_of_ble_eq_true rfl⟩ (Nat.le_of_ble_eq_true rfl) ⟨aa, ab, rfl, rfl, R0, by omega⟩ (fun r1 t2 pr1 => ?_)
  obtain ⟨x3, rfl, rfl, br1⟩ := pr1 _ _ rfl
  show G 5 [some (.inr (.inr (40, 0))), some (.inl aa), some (.inl ab), some (.inl ac), some (.inl ad), none] [.inl x3] 122 s0
  refine px_if_ne hG dX11_item_5 (tgt := 10) (by decide) ⟨by omega, by omega⟩ (fun c4 => ?_) (fun c4 => ?_)
  · refine px_aload_n hG dX11_item_10 rfl ?_
    refine px_iload_n hG dX11_item_11 rfl ?_
    refine px_iload_n hG dX11_item_12 rfl ?_
    refine px_iload_n hG dX11_item_13 rfl ?_
    refine px_iconst hG dX11_item_14 ?_
    refine jv4 hG dX11_item_15 ct_X11_against lk_X11_214 ⟨rfl, rfl⟩ (by decide) ⟨Nat.le_of_ble_eq_true rfl, Nat.le_of_ble_eq_true rfl, Nat.le_of_ble_eq_true rfl⟩ (Nat.le_of_ble_eq_true rfl) ⟨aa, ab, ac, 1, rfl, rfl, R0, by omega⟩ (fun r5 t6 pr5 => ?_)
    obtain ⟨x7, rfl, rfl, br5⟩ := pr5 _ _ _ _ rfl
    show G 18 [some (.inr (.inr (40, 0))), some (.inl aa), some (.inl ab), some (.inl ac), some (.inl ad), none] [.inl x7] 122 s0
    refine px_istore hG dX11_item_18 (Nat.le_of_ble_eq_true rfl) (L2 := [some (.inr (.inr (40, 0))), some (.inl aa), some (.inl ab), some (.inl ac), some (.inl ad), some (.inl x7)]) rfl ?_
    refine px_iload hG dX11_item_20 rfl ?_
    refine px_if_ge hG dX11_item_22 (tgt := 28) (by decide) ⟨by omega, by omega⟩ (fun c8 => ?_) (fun c8 => ?_)
    · refine px_aload_n hG dX11_item_28 rfl ?_
      refine gr_40_29 hG dX11_item_29 fl_X11_91 R0 ?_
      refine px_bipush hG dX11_item_32 (by decide) ?_
      refine px_iload_n hG dX11_item_34 rfl ?_
      refine px_imul hG dX11_item_35 ?_
      refine px_iload_n hG dX11_item_36 rfl ?_
      refine px_iadd hG dX11_item_37 ?_
      refine px_iload_n hG dX11_item_38 rfl ?_
      refine px_if_ne hG dX11_item_39 (tgt := 53) (by decide) ⟨by omega, by omega⟩ (fun c9 => ?_) (fun c9 => ?_)
      · refine px_iload_n hG dX11_item_53 rfl ?_
        refine px_iconst hG dX11_item_54 ?_
        refine px_ic_ne hG dX11_item_55 (tgt := 69) (by decide) ⟨by omega, by omega⟩ ⟨by omega, by omega⟩ (fun c10 => ?_) (fun c10 => ?_)
        · refine px_iload hG dX11_item_69 rfl ?_
          refine as_66 hG dX11_item_71 R0 (by omega) (fun s11 qs11 Rs11 => ?_)
          have Fs11 := pm_Fr_up ((pm_Fr_rf : pm_Fr [(66, none)] s0 s0)) qs11 (M := [(66, none)]) rfl
          have jj12 := pm_nec qs11 (c' := 40) (r' := 0) (i' := 0) (by decide)
          have jj13 := pm_nec qs11 (c' := 40) (r' := 0) (i' := 1) (by decide)
          have jj14 := pm_nec qs11 (c' := 40) (r' := 0) (i' := 2) (by decide)
          have jj15 := pm_nec qs11 (c' := 40) (r' := 0) (i' := 3) (by decide)
          refine px_iconst hG dX11_item_72 ?_
          have jj16 := Fs11 40 0 0 rfl
          have jj17 := Fs11 40 0 1 rfl
          have jj18 := Fs11 40 0 2 rfl
          have jj19 := Fs11 40 0 3 rfl
          exact px_iret (st := []) hG dX11_item_73 rfl rfl (fun aa_1 ab_1 ac_1 ad_1 ee => by cases ee; exact ⟨_, rfl, Rs11, Fs11⟩)
        · refine px_iload hG dX11_item_58 rfl ?_
          refine px_bipush hG dX11_item_60 (by decide) ?_
          refine px_ishl hG dX11_item_62 ?_
          generalize hx20 : pm_ishl ad 16 = x20
          have bx20 := pm_ishl_in ad 16 x20 hx20
          refine px_bipush hG dX11_item_63 (by decide) ?_
          refine px_ishr hG dX11_item_65 ?_
          generalize hx21 : pm_ishr x20 16 = x21
          have bx21 := pm_ishr_in x20 16 x21 hx21
          refine px_goto hG dX11_item_66 (tgt := 71) (by decide) ?_
          refine as_66 hG dX11_item_71 R0 (by omega) (fun s22 qs22 Rs22 => ?_)
          have Fs22 := pm_Fr_up ((pm_Fr_rf : pm_Fr [(66, none)] s0 s0)) qs22 (M := [(66, none)]) rfl
          have jj23 := pm_nec qs22 (c' := 40) (r' := 0) (i' := 0) (by decide)
          have jj24 := pm_nec qs22 (c' := 40) (r' := 0) (i' := 1) (by decide)
          have jj25 := pm_nec qs22 (c' := 40) (r' := 0) (i' := 2) (by decide)
          have jj26 := pm_nec qs22 (c' := 40) (r' := 0) (i' := 3) (by decide)
          refine px_iconst hG dX11_item_72 ?_
          have jj27 := Fs22 40 0 0 rfl
          have jj28 := Fs22 40 0 1 rfl
          have jj29 := Fs22 40 0 2 rfl
          have jj30 := Fs22 40 0 3 rfl
          exact px_iret (st := []) hG dX11_item_73 rfl rfl (fun aa_1 ab_1 ac_1 ad_1 ee => by cases ee; exact ⟨_, rfl, Rs22, Fs22⟩)
      · refine px_iload hG dX11_item_42 rfl ?_
        refine px_bipush hG dX11_item_44 (by decide) ?_
        refine px_ishl hG dX11_item_46 ?_
        generalize hx31 : pm_ishl ad 24 = x31
        have bx31 := pm_ishl_in ad 24 x31 hx31
        refine px_bipush hG dX11_item_47 (by decide) ?_
        refine px_ishr hG dX11_item_49 ?_
        generalize hx32 : pm_ishr x31 24 = x32
        have bx32 := pm_ishr_in x31 24 x32 hx32
        refine px_goto hG dX11_item_50 (tgt := 71) (by decide) ?_
        refine as_66 hG dX11_item_71 R0 (by omega) (fun s33 qs33 Rs33 => ?_)
        have Fs33 := pm_Fr_up ((pm_Fr_rf : pm_Fr [(66, none)] s0 s0)) qs33 (M := [(66, none)]) rfl
        have jj34 := pm_nec qs33 (c' := 40) (r' := 0) (i' := 0) (by decide)
        have jj35 := pm_nec qs33 (c' := 40) (r' := 0) (i' := 1) (by decide)
        have jj36 := pm_nec qs33 (c' := 40) (r' := 0) (i' := 2) (by decide)
        have jj37 := pm_nec qs33 (c' := 40) (r' := 0) (i' := 3) (by decide)
        refine px_iconst hG dX11_item_72 ?_
        have jj38 := Fs33 40 0 0 rfl
        have jj39 := Fs33 40 0 1 rfl
        have jj40 := Fs33 40 0 2 rfl
        have jj41 := Fs33 40 0 3 rfl
        exact px_iret (st := []) hG dX11_item_73 rfl rfl (fun aa_1 ab_1 ac_1 ad_1 ee => by cases ee; exact ⟨_, rfl, Rs33, Fs33⟩)
    · refine px_iload hG dX11_item_25 rfl ?_
      exact px_iret (st := []) hG dX11_item_27 rfl rfl (fun aa_1 ab_1 ac_1 ad_1 ee => by cases ee; exact ⟨_, rfl, R0, pm_Fr_rf⟩)
  · refine px_iconst hG dX11_item_8 ?_
    exact px_iret (st := []) hG dX11_item_9 rfl rfl (fun aa_1 ab_1 ac_1 ad_1 ee => by cases ee; exact ⟨_, rfl, R0, pm_Fr_rf⟩))
def pre_X11_keep (as : List pm_V) (n : Nat) (σ : pm_H) : Prop := ∃ aa ab ac : Int, as = [.inr (.inr (40, 0)), .inl aa, .inl ab, .inl ac] ∧ n = 122 ∧ pm_Rng σ ∧ ((pm_in aa ∧ pm_in ab ∧ pm_in ac) ∧ pm_J2 σ)
def po_X11_keep (as : List pm_V) (_ : Nat) (σ : pm_H) (r : Option pm_V) (τ : pm_H) : Prop := ∀ aa ab ac : Int, as = [.inr (.inr (40, 0)), .inl aa, .inl ab, .inl ac] → ∃ v : Int, r = some (.inl v) ∧ pm_Rng τ ∧ pm_Fr [(66, none)] σ τ
set_option maxRecDepth 20000 in
set_option maxHeartbeats 4000000 in
theorem ct_X11_keep : pm_Ct yX11_keep cX11_keep 6 (some .int) 2 0 pre_X11_keep po_X11_keep := pm_sound (ini := false) (by decide +kernel) pk_X11_keep (fun h => absurd h (by decide)) (by
  rintro as n s0 ⟨aa, ab, ac, rfl, rfl, R0, hpre⟩
  refine ⟨by decide, Nat.le_of_ble_eq_true rfl, fun G hG => ?_⟩
  have hG : pm_Rules (RX11, 2, 122, cX11_keep, -1, (fun _ => 0), false, (some .int), po_X11_keep [.inr (.inr (40, 0)), .inl aa, .inl ab, .inl ac] 122 s0) G := hG
  show G 0 [some (.inr (.inr (40, 0))), some (.inl aa), some (.inl ab), some (.inl ac), none, none] [] 122 s0
  have B0 := pb_40_0 R0
  have B1 := pb_40_1 R0
  have B2 := pb_40_2 R0
  have B3 := pb_40_3 R0
  have J2 := hpre.2
  have HP := hpre.1
  have JK := J2.1
  have JW := J2.2
  refine px_iload_n hG dX11_keep_0 rfl ?_
  refine px_iload_n hG dX11_keep_1 rfl ?_
  refine js2 hG dX11_keep_2 ct_X11_isSheet lk_X11_211 ⟨Nat.le_of_ble_eq_true rfl, Nat.le_of_ble_eq_true rfl, Nat.le_of_ble_eq_true rfl⟩ (Nat.le_of_ble_eq_true rfl) ⟨aa, ab, rfl, rfl, R0, by omega⟩ (fun r1 t2 pr1 => ?_)
  obtain ⟨x3, rfl, rfl, br1⟩ := pr1 _ _ rfl
  show G 5 [some (.inr (.inr (40, 0))), some (.inl aa), some (.inl ab), some (.inl ac), none, none] [.inl x3] 122 s0
  refine px_if_ne hG dX11_keep_5 (tgt := 10) (by decide) ⟨by omega, by omega⟩ (fun c4 => ?_) (fun c4 => ?_)
  · refine px_aload_n hG dX11_keep_10 rfl ?_
    refine px_iload_n hG dX11_keep_11 rfl ?_
    refine px_iload_n hG dX11_keep_12 rfl ?_
    refine px_iload_n hG dX11_keep_13 rfl ?_
    refine px_aload_n hG dX11_keep_14 rfl ?_
    refine gi_40_3 hG dX11_keep_15 fl_X11_110 R0 (fun x5 ex5 lx5 ux5 => ?_)
    refine jv4 hG dX11_keep_18 ct_X11_against lk_X11_214 ⟨rfl, rfl⟩ (by decide) ⟨Nat.le_of_ble_eq_true rfl, Nat.le_of_ble_eq_true rfl, Nat.le_of_ble_eq_true rfl⟩ (Nat.le_of_ble_eq_true rfl) ⟨aa, ab, ac, x5, rfl, rfl, R0, by omega⟩ (fun r6 t7 pr6 => ?_)
    obtain ⟨x8, rfl, rfl, br6⟩ := pr6 _ _ _ _ rfl
    show G 21 [some (.inr (.inr (40, 0))), some (.inl aa), some (.inl ab), some (.inl ac), none, none] [.inl x8] 122 s0
    refine px_istore hG dX11_keep_21 (Nat.le_of_ble_eq_true rfl) (L2 := [some (.inr (.inr (40, 0))), some (.inl aa), some (.inl ab), some (.inl ac), some (.inl x8), none]) rfl ?_
    refine px_iload hG dX11_keep_23 rfl ?_
    refine px_if_ge hG dX11_keep_25 (tgt := 31) (by decide) ⟨by omega, by omega⟩ (fun c9 => ?_) (fun c9 => ?_)
    · refine px_iconst hG dX11_keep_31 ?_
      refine px_istore hG dX11_keep_32 (Nat.le_of_ble_eq_true rfl) (L2 := [some (.inr (.inr (40, 0))), some (.inl aa), some (.inl ab), some (.inl ac), some (.inl x8), some (.inl 1)]) rfl ?_
      have L34 : ∀ (N : Nat) (v5_10 : Int) (s11 : pm_H), pm_Rng s11 → pm_Fr [(66, none)] s0 s11 → s11 40 0 3 = x5 → ((1 ≤ v5_10 ∧ v5_10 ≤ 10000)) → (10001 - v5_10).toNat < N → G 34 [some (.inr (.inr (40, 0))), some (.inl aa), none, some (.inl ac), none, some (.inl v5_10)] [] 122 s11 := by
        intro N
        induction N with
        | zero => intro v5_10 s11 R12 F13 k15 inv16 hm17; exact absurd hm17 (Nat.not_lt_zero _)
        | succ N ih14 =>
          intro v5_10 s11 R12 F13 k15 inv16 hm17
          have jj18 := F13 40 0 0 rfl
          have jj19 := F13 40 0 1 rfl
          have jj20 := F13 40 0 2 rfl
          have jj21 := F13 40 0 3 rfl
          refine px_iload hG dX11_keep_34 rfl ?_
          refine px_aload_n hG dX11_keep_36 rfl ?_
          refine gi_40_3 hG dX11_keep_37 fl_X11_110 R12 (fun x22 ex22 lx22 ux22 => ?_)
          have ex22 : s0 40 0 3 = x22 := (F13 40 0 3 rfl).symm.trans ex22
          refine px_ic_gt hG dX11_keep_40 (tgt := 72) (by decide) ⟨by omega, by omega⟩ ⟨by omega, by omega⟩ (fun c23 => ?_) (fun c23 => ?_)
          · refine px_aload_n hG dX11_keep_72 rfl ?_
            refine gi_40_3 hG dX11_keep_73 fl_X11_110 R12 (fun x24 ex24 lx24 ux24 => ?_)
            have ex24 : s0 40 0 3 = x24 := (F13 40 0 3 rfl).symm.trans ex24
            have jj25 := F13 40 0 0 rfl
            have jj26 := F13 40 0 1 rfl
            have jj27 := F13 40 0 2 rfl
            have jj28 := F13 40 0 3 rfl
            exact px_iret (st := []) hG dX11_keep_76 rfl rfl (fun aa_1 ab_1 ac_1 ee => by cases ee; exact ⟨_, rfl, R12, F13⟩)
          · refine px_aload_n hG dX11_keep_43 rfl ?_
            refine gr_40_29 hG dX11_keep_44 fl_X11_91 R12 ?_
            refine px_bipush hG dX11_keep_47 (by decide) ?_
            refine px_iload_n hG dX11_keep_49 rfl ?_
            refine px_imul hG dX11_keep_50 ?_
            refine px_iload_n hG dX11_keep_51 rfl ?_
            refine px_iadd hG dX11_keep_52 ?_
            refine px_iload hG dX11_keep_53 rfl ?_
            refine px_iadd hG dX11_keep_55 ?_
            refine px_iconst hG dX11_keep_56 ?_
            refine px_isub hG dX11_keep_57 ?_
            refine px_aload_n hG dX11_keep_58 rfl ?_
            refine gr_40_4 hG dX11_keep_59 fl_X11_13 R12 ?_
            refine px_iload hG dX11_keep_62 rfl ?_
            refine al_41 hG dX11_keep_64 R12 (by omega) (fun x29 ex29 lx29 ux29 => ?_)
            refine as_66 hG dX11_keep_65 R12 (by omega) (fun s30 qs30 Rs30 => ?_)
            have Fs30 := pm_Fr_up (F13) qs30 (M := [(66, none)]) rfl
            have k31 : s30 40 0 3 = x5 := (pm_nec qs30 (by decide)).trans k15
            have jj32 := pm_nec qs30 (c' := 40) (r' := 0) (i' := 0) (by decide)
            have jj33 := pm_nec qs30 (c' := 40) (r' := 0) (i' := 1) (by decide)
            have jj34 := pm_nec qs30 (c' := 40) (r' := 0) (i' := 2) (by decide)
            have jj35 := pm_nec qs30 (c' := 40) (r' := 0) (i' := 3) (by decide)
            refine px_iinc hG dX11_keep_66 (Nat.le_of_ble_eq_true rfl) rfl (L2 := [some (.inr (.inr (40, 0))), some (.inl aa), none, some (.inl ac), none, some (.inl (v5_10 + 1))]) rfl ?_
            refine px_goto hG dX11_keep_69 (tgt := 34) (by decide) ?_
            exact ih14 (v5_10 + 1) s30 Rs30 Fs30 k31 (by omega) (by omega)
      refine px_weak hG (L2 := [some (.inr (.inr (40, 0))), some (.inl aa), none, some (.inl ac), none, some (.inl 1)]) ⟨Or.inr rfl, Or.inr rfl, Or.inl rfl, Or.inr rfl, Or.inl rfl, Or.inr rfl, trivial⟩ ?_
      exact L34 _ 1 s0 R0 pm_Fr_rf ex5 (by omega) (Nat.lt_succ_self _)
    · refine px_iload hG dX11_keep_28 rfl ?_
      exact px_iret (st := []) hG dX11_keep_30 rfl rfl (fun aa_1 ab_1 ac_1 ee => by cases ee; exact ⟨_, rfl, R0, pm_Fr_rf⟩)
  · refine px_iconst hG dX11_keep_8 ?_
    exact px_iret (st := []) hG dX11_keep_9 rfl rfl (fun aa_1 ab_1 ac_1 ee => by cases ee; exact ⟨_, rfl, R0, pm_Fr_rf⟩))
def pre_X11_cars (as : List pm_V) (n : Nat) (σ : pm_H) : Prop := ∃ aa ab ac ad : Int, as = [.inr (.inr (40, 0)), .inl aa, .inl ab, .inl ac, .inl ad] ∧ n = 122 ∧ pm_Rng σ ∧ ((pm_in aa ∧ pm_in ab ∧ pm_in ac ∧ pm_in ad) ∧ pm_J2 σ)
def po_X11_cars (as : List pm_V) (_ : Nat) (σ : pm_H) (r : Option pm_V) (τ : pm_H) : Prop := ∀ aa ab ac ad : Int, as = [.inr (.inr (40, 0)), .inl aa, .inl ab, .inl ac, .inl ad] → ∃ v : Int, r = some (.inl v) ∧ pm_Rng τ ∧ pm_Fr [(40, some 3), (41, none), (42, none)] σ τ ∧ (pm_J2 τ)
set_option maxRecDepth 20000 in
set_option maxHeartbeats 4000000 in
theorem ct_X11_cars : pm_Ct yX11_cars cX11_cars 7 (some .int) 2 0 pre_X11_cars po_X11_cars := pm_sound (ini := false) (by decide +kernel) pk_X11_cars (fun h => absurd h (by decide)) (by
  rintro as n s0 ⟨aa, ab, ac, ad, rfl, rfl, R0, hpre⟩
  refine ⟨by decide, Nat.le_of_ble_eq_true rfl, fun G hG => ?_⟩
  have hG : pm_Rules (RX11, 2, 122, cX11_cars, -1, (fun _ => 0), false, (some .int), po_X11_cars [.inr (.inr (40, 0)), .inl aa, .inl ab, .inl ac, .inl ad] 122 s0) G := hG
  show G 0 [some (.inr (.inr (40, 0))), some (.inl aa), some (.inl ab), some (.inl ac), some (.inl ad), none, none] [] 122 s0
  have B0 := pb_40_0 R0
  have B1 := pb_40_1 R0
  have B2 := pb_40_2 R0
  have B3 := pb_40_3 R0
  have J2 := hpre.2
  have HP := hpre.1
  have JK := J2.1
  have JW := J2.2
  refine px_iload_n hG dX11_cars_0 rfl ?_
  refine px_iload_n hG dX11_cars_1 rfl ?_
  refine js2 hG dX11_cars_2 ct_X11_isSheet lk_X11_211 ⟨Nat.le_of_ble_eq_true rfl, Nat.le_of_ble_eq_true rfl, Nat.le_of_ble_eq_true rfl⟩ (Nat.le_of_ble_eq_true rfl) ⟨aa, ab, rfl, rfl, R0, by omega⟩ (fun r1 t2 pr1 => ?_)
  obtain ⟨x3, rfl, rfl, br1⟩ := pr1 _ _ rfl
  show G 5 [some (.inr (.inr (40, 0))), some (.inl aa), some (.inl ab), some (.inl ac), some (.inl ad), none, none] [.inl x3] 122 s0
  refine px_if_eq hG dX11_cars_5 (tgt := 21) (by decide) ⟨by omega, by omega⟩ (fun c4 => ?_) (fun c4 => ?_)
  · refine px_iconst hG dX11_cars_21 ?_
    exact px_iret (st := []) hG dX11_cars_22 rfl rfl (fun aa_1 ab_1 ac_1 ad_1 ee => by cases ee; exact ⟨_, rfl, R0, pm_Fr_rf, J2⟩)
  · refine px_iload hG dX11_cars_8 rfl ?_
    refine px_i2l hG dX11_cars_10 ⟨by omega, by omega⟩ ?_
    refine px_lconst hG dX11_cars_11 ?_
    show G 12 [some (.inr (.inr (40, 0))), some (.inl aa), some (.inl ab), some (.inl ac), some (.inl ad), none, none] [.inr (.inl 0), .inr (.inl ad)] 122 s0
    refine px_ldc2 hG dX11_cars_12 cn_X11_100 ?_
    show G 15 [some (.inr (.inr (40, 0))), some (.inl aa), some (.inl ab), some (.inl ac), some (.inl ad), none, none] [.inr (.inl 10), .inr (.inl 0), .inr (.inl ad)] 122 s0
    refine js3 hG dX11_cars_15 ct_X11_in lk_X11_96 ⟨Nat.le_of_ble_eq_true rfl, Nat.le_of_ble_eq_true rfl, Nat.le_of_ble_eq_true rfl⟩ (Nat.le_of_ble_eq_true rfl) ⟨ad, 0, 10, rfl, rfl, R0, by omega⟩ (fun r5 t6 pr5 => ?_)
    obtain ⟨x7, rfl, rfl, br5⟩ := pr5 _ _ _ rfl
    show G 18 [some (.inr (.inr (40, 0))), some (.inl aa), some (.inl ab), some (.inl ac), some (.inl ad), none, none] [.inl x7] 122 s0
    refine px_if_ne hG dX11_cars_18 (tgt := 23) (by decide) ⟨by omega, by omega⟩ (fun c8 => ?_) (fun c8 => ?_)
    · refine px_aload_n hG dX11_cars_23 rfl ?_
      refine px_iload_n hG dX11_cars_24 rfl ?_
      refine px_iload_n hG dX11_cars_25 rfl ?_
      refine px_iload_n hG dX11_cars_26 rfl ?_
      refine px_iload hG dX11_cars_27 rfl ?_
      refine jv4 hG dX11_cars_29 ct_X11_against lk_X11_214 ⟨rfl, rfl⟩ (by decide) ⟨Nat.le_of_ble_eq_true rfl, Nat.le_of_ble_eq_true rfl, Nat.le_of_ble_eq_true rfl⟩ (Nat.le_of_ble_eq_true rfl) ⟨aa, ab, ac, ad, rfl, rfl, R0, by omega⟩ (fun r9 t10 pr9 => ?_)
      obtain ⟨x11, rfl, rfl, br9⟩ := pr9 _ _ _ _ rfl
      show G 32 [some (.inr (.inr (40, 0))), some (.inl aa), some (.inl ab), some (.inl ac), some (.inl ad), none, none] [.inl x11] 122 s0
      refine px_istore hG dX11_cars_32 (Nat.le_of_ble_eq_true rfl) (L2 := [some (.inr (.inr (40, 0))), some (.inl aa), some (.inl ab), some (.inl ac), some (.inl ad), some (.inl x11), none]) rfl ?_
      refine px_iload hG dX11_cars_34 rfl ?_
      refine px_if_ge hG dX11_cars_36 (tgt := 42) (by decide) ⟨by omega, by omega⟩ (fun c12 => ?_) (fun c12 => ?_)
      · refine px_iconst hG dX11_cars_42 ?_
        refine px_istore hG dX11_cars_43 (Nat.le_of_ble_eq_true rfl) (L2 := [some (.inr (.inr (40, 0))), some (.inl aa), some (.inl ab), some (.inl ac), some (.inl ad), some (.inl x11), some (.inl 0)]) rfl ?_
        have L45 : ∀ (N : Nat) (v6_13 : Int), ((0 ≤ v6_13 ∧ v6_13 ≤ 10000) ∧ (∀ q : Int, 0 ≤ q → q < v6_13 → 1 ≤ s0 66 0 (20 * aa + (ac + q)) ∧ s0 66 0 (20 * aa + (ac + q)) ≤ s0 40 0 1)) → (10001 - v6_13).toNat < N → G 45 [some (.inr (.inr (40, 0))), some (.inl aa), none, some (.inl ac), some (.inl ad), none, some (.inl v6_13)] [] 122 s0 := by
          intro N
          induction N with
          | zero => intro v6_13 inv15 hm16; exact absurd hm16 (Nat.not_lt_zero _)
          | succ N ih14 =>
            intro v6_13 inv15 hm16
            have W := inv15.2
            refine px_iload hG dX11_cars_45 rfl ?_
            refine px_iload hG dX11_cars_47 rfl ?_
            refine px_ic_ge hG dX11_cars_49 (tgt := 83) (by decide) ⟨by omega, by omega⟩ ⟨by omega, by omega⟩ (fun c17 => ?_) (fun c17 => ?_)
            · refine px_aload_n hG dX11_cars_83 rfl ?_
              refine gi_40_3 hG dX11_cars_84 fl_X11_110 R0 (fun x18 ex18 lx18 ux18 => ?_)
              refine px_iload hG dX11_cars_87 rfl ?_
              refine px_iadd hG dX11_cars_89 ?_
              refine px_aload_n hG dX11_cars_90 rfl ?_
              refine gi_40_1 hG dX11_cars_91 fl_X11_7 R0 (fun x19 ex19 lx19 ux19 => ?_)
              refine px_ic_le hG dX11_cars_94 (tgt := 100) (by decide) ⟨by omega, by omega⟩ ⟨by omega, by omega⟩ (fun c20 => ?_) (fun c20 => ?_)
              · refine px_iconst hG dX11_cars_100 ?_
                refine px_istore hG dX11_cars_101 (Nat.le_of_ble_eq_true rfl) (L2 := [some (.inr (.inr (40, 0))), some (.inl aa), none, some (.inl ac), some (.inl ad), none, some (.inl 0)]) rfl ?_
                have L103 : ∀ (N : Nat) (v6_21 : Int) (s22 : pm_H), pm_Rng s22 → pm_Fr [(40, some 3), (41, none), (42, none)] s0 s22 → s22 40 0 1 = x19 → ((0 ≤ v6_21 ∧ v6_21 ≤ 10000) ∧ (pm_J2 s22 ∧ s22 40 0 3 = s0 40 0 3 + v6_21 ∧ v6_21 ≤ ad)) → (10001 - v6_21).toNat < N → G 103 [some (.inr (.inr (40, 0))), some (.inl aa), none, some (.inl ac), some (.inl ad), none, some (.inl v6_21)] [] 122 s22 := by
                  intro N
                  induction N with
                  | zero => intro v6_21 s22 R23 F24 k26 inv27 hm28; exact absurd hm28 (Nat.not_lt_zero _)
                  | succ N ih25 =>
                    intro v6_21 s22 R23 F24 k26 inv27 hm28
                    have jj29 := F24 40 0 0 rfl
                    have jj30 := F24 40 0 1 rfl
                    have jj31 := F24 40 0 2 rfl
                    have Js22 := (inv27.2).1
                    refine px_iload hG dX11_cars_103 rfl ?_
                    refine px_iload hG dX11_cars_105 rfl ?_
                    refine px_ic_ge hG dX11_cars_107 (tgt := 129) (by decide) ⟨by omega, by omega⟩ ⟨by omega, by omega⟩ (fun c32 => ?_) (fun c32 => ?_)
                    · refine px_aload_n hG dX11_cars_129 rfl ?_
                      refine gi_40_3 hG dX11_cars_130 fl_X11_110 R23 (fun x33 ex33 lx33 ux33 => ?_)
                      have jj34 := F24 40 0 0 rfl
                      have jj35 := F24 40 0 1 rfl
                      have jj36 := F24 40 0 2 rfl
                      exact px_iret (st := []) hG dX11_cars_133 rfl rfl (fun aa_1 ab_1 ac_1 ad_1 ee => by cases ee; exact ⟨_, rfl, R23, F24, Js22⟩)
                    · refine px_aload_n hG dX11_cars_110 rfl ?_
                      refine px_aload_n hG dX11_cars_111 rfl ?_
                      refine px_iload_n hG dX11_cars_112 rfl ?_
                      refine px_iload_n hG dX11_cars_113 rfl ?_
                      refine px_iload hG dX11_cars_114 rfl ?_
                      refine px_iadd hG dX11_cars_116 ?_
                      refine jv2 hG dX11_cars_117 ct_X11_read lk_X11_218 ⟨rfl, rfl⟩ (by decide) ⟨Nat.le_of_ble_eq_true rfl, Nat.le_of_ble_eq_true rfl, Nat.le_of_ble_eq_true rfl⟩ (Nat.le_of_ble_eq_true rfl) ⟨aa, (ac + v6_21), rfl, rfl, R23, by omega⟩ (fun r37 t38 pr37 => ?_)
                      obtain ⟨x39, rfl, rfl, br37⟩ := pr37 _ _ rfl
                      show G 120 [some (.inr (.inr (40, 0))), some (.inl aa), none, some (.inl ac), some (.inl ad), none, some (.inl v6_21)] [.inl x39, .inr (.inr (40, 0))] 122 s22
                      have X2 := br37
                      have X4 := F24 66 0 (20 * aa + (ac + v6_21)) rfl
                      have X3 := W v6_21 (by omega) (by omega)
                      refine jv1 hG dX11_cars_120 ct_X11_add lk_X11_113 ⟨rfl, rfl⟩ (by decide) ⟨Nat.le_of_ble_eq_true rfl, Nat.le_of_ble_eq_true rfl, Nat.le_of_ble_eq_true rfl⟩ (Nat.le_of_ble_eq_true rfl) ⟨x39, rfl, rfl, R23, ⟨by omega, Js22⟩⟩ (fun r40 t42 pr40 => ?_)
                      obtain ⟨rfl, Rt42, Ft42, br40⟩ := pr40 _ rfl
                      have Ff44 := pm_Fr_tr F24 Ft42 (M := [(40, some 3), (41, none), (42, none)]) rfl
                      have jj45 := Ft42 40 0 0 rfl
                      have jj46 := Ft42 40 0 1 rfl
                      have jj47 := Ft42 40 0 2 rfl
                      have Jt42 : pm_J2 t42 := br40.1
                      have k48 : t42 40 0 1 = x19 := (Ft42 40 0 1 rfl).trans k26
                      show G 123 [some (.inr (.inr (40, 0))), some (.inl aa), none, some (.inl ac), some (.inl ad), none, some (.inl v6_21)] [] 122 t42
                      refine px_iinc hG dX11_cars_123 (Nat.le_of_ble_eq_true rfl) rfl (L2 := [some (.inr (.inr (40, 0))), some (.inl aa), none, some (.inl ac), some (.inl ad), none, some (.inl (v6_21 + 1))]) rfl ?_
                      refine px_goto hG dX11_cars_126 (tgt := 103) (by decide) ?_
                      exact ih25 (v6_21 + 1) t42 Rt42 Ff44 k48 (⟨by omega, ⟨Jt42, by omega, by omega⟩⟩) (by omega)
                exact L103 _ 0 s0 R0 pm_Fr_rf ex19 (⟨by omega, ⟨J2, by omega, by omega⟩⟩) (Nat.lt_succ_self _)
              · refine px_bipush hG dX11_cars_97 (by decide) ?_
                exact px_iret (st := []) hG dX11_cars_99 rfl rfl (fun aa_1 ab_1 ac_1 ad_1 ee => by cases ee; exact ⟨_, rfl, R0, pm_Fr_rf, J2⟩)
            · refine px_aload_n hG dX11_cars_52 rfl ?_
              refine px_iload_n hG dX11_cars_53 rfl ?_
              refine px_iload_n hG dX11_cars_54 rfl ?_
              refine px_iload hG dX11_cars_55 rfl ?_
              refine px_iadd hG dX11_cars_57 ?_
              refine jv2 hG dX11_cars_58 ct_X11_read lk_X11_218 ⟨rfl, rfl⟩ (by decide) ⟨Nat.le_of_ble_eq_true rfl, Nat.le_of_ble_eq_true rfl, Nat.le_of_ble_eq_true rfl⟩ (Nat.le_of_ble_eq_true rfl) ⟨aa, (ac + v6_13), rfl, rfl, R0, by omega⟩ (fun r49 t50 pr49 => ?_)
              obtain ⟨x51, rfl, rfl, br49⟩ := pr49 _ _ rfl
              show G 61 [some (.inr (.inr (40, 0))), some (.inl aa), none, some (.inl ac), some (.inl ad), none, some (.inl v6_13)] [.inl x51] 122 s0
              have X1 := br49
              refine px_i2l hG dX11_cars_61 ⟨by omega, by omega⟩ ?_
              refine px_lconst hG dX11_cars_62 ?_
              show G 63 [some (.inr (.inr (40, 0))), some (.inl aa), none, some (.inl ac), some (.inl ad), none, some (.inl v6_13)] [.inr (.inl 1), .inr (.inl x51)] 122 s0
              refine px_aload_n hG dX11_cars_63 rfl ?_
              refine gi_40_1 hG dX11_cars_64 fl_X11_7 R0 (fun x52 ex52 lx52 ux52 => ?_)
              refine px_i2l hG dX11_cars_67 ⟨by omega, by omega⟩ ?_
              refine js3 hG dX11_cars_68 ct_X11_in lk_X11_96 ⟨Nat.le_of_ble_eq_true rfl, Nat.le_of_ble_eq_true rfl, Nat.le_of_ble_eq_true rfl⟩ (Nat.le_of_ble_eq_true rfl) ⟨x51, 1, x52, rfl, rfl, R0, by omega⟩ (fun r53 t54 pr53 => ?_)
              obtain ⟨x55, rfl, rfl, br53⟩ := pr53 _ _ _ rfl
              show G 71 [some (.inr (.inr (40, 0))), some (.inl aa), none, some (.inl ac), some (.inl ad), none, some (.inl v6_13)] [.inl x55] 122 s0
              refine px_if_ne hG dX11_cars_71 (tgt := 77) (by decide) ⟨by omega, by omega⟩ (fun c56 => ?_) (fun c56 => ?_)
              · refine px_iinc hG dX11_cars_77 (Nat.le_of_ble_eq_true rfl) rfl (L2 := [some (.inr (.inr (40, 0))), some (.inl aa), none, some (.inl ac), some (.inl ad), none, some (.inl (v6_13 + 1))]) rfl ?_
                refine px_goto hG dX11_cars_80 (tgt := 45) (by decide) ?_
                exact ih14 (v6_13 + 1) (⟨by omega, pm_all_s W (by have hx := X1; constructor <;> omega)⟩) (by omega)
              · refine px_bipush hG dX11_cars_74 (by decide) ?_
                exact px_iret (st := []) hG dX11_cars_76 rfl rfl (fun aa_1 ab_1 ac_1 ad_1 ee => by cases ee; exact ⟨_, rfl, R0, pm_Fr_rf, J2⟩)
        refine px_weak hG (L2 := [some (.inr (.inr (40, 0))), some (.inl aa), none, some (.inl ac), some (.inl ad), none, some (.inl 0)]) ⟨Or.inr rfl, Or.inr rfl, Or.inl rfl, Or.inr rfl, Or.inr rfl, Or.inl rfl, Or.inr rfl, trivial⟩ ?_
        exact L45 _ 0 (⟨by omega, fun q h0 h1 => by omega⟩) (Nat.lt_succ_self _)
      · refine px_iload hG dX11_cars_39 rfl ?_
        exact px_iret (st := []) hG dX11_cars_41 rfl rfl (fun aa_1 ab_1 ac_1 ad_1 ee => by cases ee; exact ⟨_, rfl, R0, pm_Fr_rf, J2⟩)
    · refine px_iconst hG dX11_cars_21 ?_
      exact px_iret (st := []) hG dX11_cars_22 rfl rfl (fun aa_1 ab_1 ac_1 ad_1 ee => by cases ee; exact ⟨_, rfl, R0, pm_Fr_rf, J2⟩))
