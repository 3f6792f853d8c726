/-! ===== the model: spreads ===== -/
def pre_X11_allOf (as : List pm_V) (n : Nat) (σ : pm_H) : Prop := ∃ pl : Int, as = [.inl pl] ∧ n = 122 ∧ pm_Rng σ ∧ (0 ≤ pl ∧ pl ≤ 10)
def po_X11_allOf (as : List pm_V) (_ : Nat) (σ : pm_H) (r : Option pm_V) (τ : pm_H) : Prop := ∀ pl : Int, as = [.inl pl] → ∃ v : Int, r = some (.inr (.inl v)) ∧ σ = τ
set_option maxRecDepth 20000 in
set_option maxHeartbeats 4000000 in
theorem ct_X11_allOf : pm_Ct yX11_allOf cX11_allOf 1 (some .long) 1 0 pre_X11_allOf po_X11_allOf := pm_sound (ini := false) (by decide +kernel) pk_X11_allOf (fun h => absurd h (by decide)) (by
  rintro as n s0 ⟨pl, rfl, rfl, R0, hpre⟩
  refine ⟨by decide, Nat.le_of_ble_eq_true rfl, fun G hG => ?_⟩
  have hG : pm_Rules (RX11, 1, 122, cX11_allOf, -1, (fun _ => 0), false, (some .long), po_X11_allOf [.inl pl] 122 s0) G := hG
  show G 0 [some (.inl pl)] [] 122 s0
  refine px_iload_n hG dX11_allOf_0 rfl ?_
  refine px_if_ne hG dX11_allOf_1 (tgt := 8) (by decide) ⟨by omega, by omega⟩ (fun c1 => ?_) (fun c1 => ?_)
  · refine px_iload_n hG dX11_allOf_8 rfl ?_
    refine px_iconst hG dX11_allOf_9 ?_
    refine px_iadd hG dX11_allOf_10 ?_
    refine px_i2l hG dX11_allOf_11 ⟨by omega, by omega⟩ ?_
    refine px_iload_n hG dX11_allOf_12 rfl ?_
    refine px_iconst hG dX11_allOf_13 ?_
    refine px_isub hG dX11_allOf_14 ?_
    refine js2 hG dX11_allOf_15 ct_X11_power lk_X11_195 ⟨Nat.le_of_ble_eq_true rfl, Nat.le_of_ble_eq_true rfl, Nat.le_of_ble_eq_true rfl⟩ (Nat.le_of_ble_eq_true rfl) ⟨(pl + 1), (pl - 1), rfl, rfl, R0, by omega⟩ (fun r2 t3 pr2 => ?_)
    obtain ⟨z4, rfl, rfl⟩ := pr2 _ _ rfl
    show G 18 [some (.inl pl)] [.inr (.inl z4)] 122 s0
    exact px_lret (st := []) hG dX11_allOf_18 rfl rfl (fun pl_1 ee => by cases ee; exact ⟨_, rfl, rfl⟩)
  · refine px_lconst hG dX11_allOf_4 ?_
    show G 5 [some (.inl pl)] [.inr (.inl 1)] 122 s0
    refine px_goto hG dX11_allOf_5 (tgt := 18) (by decide) ?_
    exact px_lret (st := []) hG dX11_allOf_18 rfl rfl (fun pl_1 ee => by cases ee; exact ⟨_, rfl, rfl⟩))
def pre_X11_withSum (as : List pm_V) (n : Nat) (σ : pm_H) : Prop := ∃ pl su : Int, as = [.inr (.inr (40, 0)), .inl pl, .inl su] ∧ n = 122 ∧ pm_Rng σ ∧ ((1 ≤ pl ∧ pl ≤ 10 ∧ pm_in su) ∧ pm_J2 σ)
def po_X11_withSum (as : List pm_V) (_ : Nat) (σ : pm_H) (r : Option pm_V) (τ : pm_H) : Prop := ∀ pl su : Int, as = [.inr (.inr (40, 0)), .inl pl, .inl su] → ∃ v : Int, r = some (.inr (.inl v)) ∧ pm_Rng τ ∧ pm_Fr [(61, none)] σ τ
set_option maxRecDepth 20000 in
set_option maxHeartbeats 4000000 in
theorem ct_X11_withSum : pm_Ct yX11_withSum cX11_withSum 8 (some .long) 2 0 pre_X11_withSum po_X11_withSum := pm_sound (ini := false) (by decide +kernel) pk_X11_withSum (fun h => absurd h (by decide)) (by
  rintro as n s0 ⟨pl, su, rfl, rfl, R0, hpre⟩
  refine ⟨by decide, Nat.le_of_ble_eq_true rfl, fun G hG => ?_⟩
  have hG : pm_Rules (RX11, 2, 122, cX11_withSum, -1, (fun _ => 0), false, (some .long), po_X11_withSum [.inr (.inr (40, 0)), .inl pl, .inl su] 122 s0) G := hG
  show G 0 [some (.inr (.inr (40, 0))), some (.inl pl), some (.inl su), none, none, none, none, none] [] 122 s0
  have B0 := pb_40_0 R0
  have B1 := pb_40_1 R0
  have B2 := pb_40_2 R0
  have B3 := pb_40_3 R0
  have J2 := hpre.2
  have HP := hpre.1
  have JK := J2.1
  have JW := J2.2
  refine px_bipush hG dX11_withSum_0 (by decide) ?_
  refine px_istore_n hG dX11_withSum_2 (Nat.le_of_ble_eq_true rfl) (L2 := [some (.inr (.inr (40, 0))), some (.inl pl), some (.inl su), some (.inl 56), none, none, none, none]) rfl ?_
  refine px_iconst hG dX11_withSum_3 ?_
  refine px_istore hG dX11_withSum_4 (Nat.le_of_ble_eq_true rfl) (L2 := [some (.inr (.inr (40, 0))), some (.inl pl), some (.inl su), some (.inl 56), some (.inl 0), none, none, none]) rfl ?_
  have L6 : ∀ (N : Nat) (v4_1 : Int) (s2 : pm_H), pm_Rng s2 → pm_Fr [(61, none)] s0 s2 → ((0 ≤ v4_1 ∧ v4_1 ≤ 10000)) → (10001 - v4_1).toNat < N → G 6 [some (.inr (.inr (40, 0))), some (.inl pl), some (.inl su), some (.inl 56), some (.inl v4_1), none, none, none] [] 122 s2 := by
    intro N
    induction N with
    | zero => intro v4_1 s2 R3 F4 inv6 hm7; exact absurd hm7 (Nat.not_lt_zero _)
    | succ N ih5 =>
      intro v4_1 s2 R3 F4 inv6 hm7
      have jj8 := F4 40 0 0 rfl
      have jj9 := F4 40 0 1 rfl
      have jj10 := F4 40 0 2 rfl
      have jj11 := F4 40 0 3 rfl
      refine px_iload hG dX11_withSum_6 rfl ?_
      refine px_sipush hG dX11_withSum_8 (by decide) ?_
      have J28_13 : ((v4_1 ≥ 8064)) → G 28 [some (.inr (.inr (40, 0))), some (.inl pl), some (.inl su), some (.inl 56), none, none, none, none] [] 122 s2 := by
        intro inv14
        refine px_aload_n hG dX11_withSum_28 rfl ?_
        refine gr_40_24 hG dX11_withSum_29 fl_X11_76 R3 ?_
        refine px_iload_n hG dX11_withSum_32 rfl ?_
        refine px_bipush hG dX11_withSum_33 (by decide) ?_
        refine px_imul hG dX11_withSum_35 ?_
        refine px_iload_n hG dX11_withSum_36 rfl ?_
        refine px_iconst hG dX11_withSum_37 ?_
        refine px_iadd hG dX11_withSum_38 ?_
        refine px_imul hG dX11_withSum_39 ?_
        refine px_lconst hG dX11_withSum_40 ?_
        show G 41 [some (.inr (.inr (40, 0))), some (.inl pl), some (.inl su), some (.inl 56), none, none, none, none] [.inr (.inl 1), .inl ((56 * 12) * (pl + 1)), .inr (.inr (61, 0))] 122 s2
        refine as_61 hG dX11_withSum_41 R3 (by omega) (fun s15 qs15 Rs15 => ?_)
        have Fs15 := pm_Fr_up (F4) qs15 (M := [(61, none)]) rfl
        have jj16 := pm_nec qs15 (c' := 40) (r' := 0) (i' := 0) (by decide)
        have jj17 := pm_nec qs15 (c' := 40) (r' := 0) (i' := 1) (by decide)
        have jj18 := pm_nec qs15 (c' := 40) (r' := 0) (i' := 2) (by decide)
        have jj19 := pm_nec qs15 (c' := 40) (r' := 0) (i' := 3) (by decide)
        refine px_iload_n hG dX11_withSum_42 rfl ?_
        refine px_istore hG dX11_withSum_43 (Nat.le_of_ble_eq_true rfl) (L2 := [some (.inr (.inr (40, 0))), some (.inl pl), some (.inl su), some (.inl 56), some (.inl pl), none, none, none]) rfl ?_
        have L45 : ∀ (N : Nat) (v4_20 : Int) (s21 : pm_H), pm_Rng s21 → pm_Fr [(61, none)] s0 s21 → ((-10000 ≤ v4_20 ∧ v4_20 ≤ pl)) → (v4_20 + 10001).toNat < N → G 45 [some (.inr (.inr (40, 0))), some (.inl pl), some (.inl su), some (.inl 56), some (.inl v4_20), none, none, none] [] 122 s21 := by
          intro N
          induction N with
          | zero => intro v4_20 s21 R22 F23 inv25 hm26; exact absurd hm26 (Nat.not_lt_zero _)
          | succ N ih24 =>
            intro v4_20 s21 R22 F23 inv25 hm26
            have jj27 := F23 40 0 0 rfl
            have jj28 := F23 40 0 1 rfl
            have jj29 := F23 40 0 2 rfl
            have jj30 := F23 40 0 3 rfl
            refine px_iload hG dX11_withSum_45 rfl ?_
            refine px_iconst hG dX11_withSum_47 ?_
            have J176_32 : ((v4_20 < 1)) → G 176 [some (.inr (.inr (40, 0))), some (.inl pl), some (.inl su), some (.inl 56), none, none, none, none] [] 122 s21 := by
              intro inv33
              refine px_iload_n hG dX11_withSum_176 rfl ?_
              refine px_i2l hG dX11_withSum_177 ⟨by omega, by omega⟩ ?_
              refine px_lconst hG dX11_withSum_178 ?_
              show G 179 [some (.inr (.inr (40, 0))), some (.inl pl), some (.inl su), some (.inl 56), none, none, none, none] [.inr (.inl 0), .inr (.inl su)] 122 s21
              refine px_iload_n hG dX11_withSum_179 rfl ?_
              refine px_iconst hG dX11_withSum_180 ?_
              refine px_isub hG dX11_withSum_181 ?_
              refine px_i2l hG dX11_withSum_182 ⟨by omega, by omega⟩ ?_
              refine js3 hG dX11_withSum_183 ct_X11_in lk_X11_96 ⟨Nat.le_of_ble_eq_true rfl, Nat.le_of_ble_eq_true rfl, Nat.le_of_ble_eq_true rfl⟩ (Nat.le_of_ble_eq_true rfl) ⟨su, 0, (56 - 1), rfl, rfl, R22, by omega⟩ (fun r34 t35 pr34 => ?_)
              obtain ⟨x36, rfl, rfl, br34⟩ := pr34 _ _ _ rfl
              show G 186 [some (.inr (.inr (40, 0))), some (.inl pl), some (.inl su), some (.inl 56), none, none, none, none] [.inl x36] 122 s21
              refine px_if_eq hG dX11_withSum_186 (tgt := 205) (by decide) ⟨by omega, by omega⟩ (fun c37 => ?_) (fun c37 => ?_)
              · refine px_lconst hG dX11_withSum_205 ?_
                show G 206 [some (.inr (.inr (40, 0))), some (.inl pl), some (.inl su), some (.inl 56), none, none, none, none] [.inr (.inl 0)] 122 s21
                have jj38 := F23 40 0 0 rfl
                have jj39 := F23 40 0 1 rfl
                have jj40 := F23 40 0 2 rfl
                have jj41 := F23 40 0 3 rfl
                exact px_lret (st := []) hG dX11_withSum_206 rfl rfl (fun pl_1 su_1 ee => by cases ee; exact ⟨_, rfl, R22, F23⟩)
              · refine px_aload_n hG dX11_withSum_189 rfl ?_
                refine gr_40_24 hG dX11_withSum_190 fl_X11_76 R22 ?_
                refine px_iload_n hG dX11_withSum_193 rfl ?_
                refine px_bipush hG dX11_withSum_194 (by decide) ?_
                refine px_iload_n hG dX11_withSum_196 rfl ?_
                refine px_iadd hG dX11_withSum_197 ?_
                refine px_imul hG dX11_withSum_198 ?_
                refine px_iload_n hG dX11_withSum_199 rfl ?_
                refine px_iadd hG dX11_withSum_200 ?_
                refine al_61 hG dX11_withSum_201 (by omega) (fun z42 ez42 => ?_)
                refine px_goto hG dX11_withSum_202 (tgt := 206) (by decide) ?_
                have jj43 := F23 40 0 0 rfl
                have jj44 := F23 40 0 1 rfl
                have jj45 := F23 40 0 2 rfl
                have jj46 := F23 40 0 3 rfl
                exact px_lret (st := []) hG dX11_withSum_206 rfl rfl (fun pl_1 su_1 ee => by cases ee; exact ⟨_, rfl, R22, F23⟩)
            refine px_ic_lt hG dX11_withSum_48 (tgt := 176) (by decide) ⟨by omega, by omega⟩ ⟨by omega, by omega⟩ (fun c31 => ?_) (fun c31 => ?_)
            · refine px_weak hG (L2 := [some (.inr (.inr (40, 0))), some (.inl pl), some (.inl su), some (.inl 56), none, none, none, none]) ⟨Or.inr rfl, Or.inr rfl, Or.inr rfl, Or.inr rfl, Or.inl rfl, Or.inr rfl, Or.inr rfl, Or.inr rfl, trivial⟩ ?_
              exact J176_32  (by omega)
            · refine px_iconst hG dX11_withSum_51 ?_
              refine px_istore hG dX11_withSum_52 (Nat.le_of_ble_eq_true rfl) (L2 := [some (.inr (.inr (40, 0))), some (.inl pl), some (.inl su), some (.inl 56), some (.inl v4_20), some (.inl 0), none, none]) rfl ?_
              have L54 : ∀ (N : Nat) (v5_47 : Int) (s48 : pm_H), pm_Rng s48 → pm_Fr [(61, none)] s0 s48 → ((0 ≤ v5_47 ∧ v5_47 ≤ 10000)) → (10001 - v5_47).toNat < N → G 54 [some (.inr (.inr (40, 0))), some (.inl pl), some (.inl su), some (.inl 56), some (.inl v4_20), some (.inl v5_47), none, none] [] 122 s48 := by
                intro N
                induction N with
                | zero => intro v5_47 s48 R49 F50 inv52 hm53; exact absurd hm53 (Nat.not_lt_zero _)
                | succ N ih51 =>
                  intro v5_47 s48 R49 F50 inv52 hm53
                  have jj54 := F50 40 0 0 rfl
                  have jj55 := F50 40 0 1 rfl
                  have jj56 := F50 40 0 2 rfl
                  have jj57 := F50 40 0 3 rfl
                  refine px_iload hG dX11_withSum_54 rfl ?_
                  refine px_iload_n hG dX11_withSum_56 rfl ?_
                  refine px_iload hG dX11_withSum_57 rfl ?_
                  refine px_isub hG dX11_withSum_59 ?_
                  refine px_iconst hG dX11_withSum_60 ?_
                  refine px_iadd hG dX11_withSum_61 ?_
                  refine px_ic_gt hG dX11_withSum_62 (tgt := 170) (by decide) ⟨by omega, by omega⟩ ⟨by omega, by omega⟩ (fun c58 => ?_) (fun c58 => ?_)
                  · refine px_iinc hG dX11_withSum_170 (Nat.le_of_ble_eq_true rfl) rfl (L2 := [some (.inr (.inr (40, 0))), some (.inl pl), some (.inl su), some (.inl 56), some (.inl (v4_20 + -1)), some (.inl v5_47), none, none]) rfl ?_
                    refine px_goto hG dX11_withSum_173 (tgt := 45) (by decide) ?_
                    refine px_weak hG (L2 := [some (.inr (.inr (40, 0))), some (.inl pl), some (.inl su), some (.inl 56), some (.inl (v4_20 + -1)), none, none, none]) ⟨Or.inr rfl, Or.inr rfl, Or.inr rfl, Or.inr rfl, Or.inr rfl, Or.inl rfl, Or.inr rfl, Or.inr rfl, trivial⟩ ?_
                    exact ih24 (v4_20 + -1) s48 R49 F50 (by omega) (by omega)
                  · refine px_iconst hG dX11_withSum_65 ?_
                    refine px_istore hG dX11_withSum_66 (Nat.le_of_ble_eq_true rfl) (L2 := [some (.inr (.inr (40, 0))), some (.inl pl), some (.inl su), some (.inl 56), some (.inl v4_20), some (.inl v5_47), some (.inl 0), none]) rfl ?_
                    have L68 : ∀ (N : Nat) (v6_59 : Int) (s60 : pm_H), pm_Rng s60 → pm_Fr [(61, none)] s0 s60 → ((0 ≤ v6_59 ∧ v6_59 ≤ 10000)) → (10001 - v6_59).toNat < N → G 68 [some (.inr (.inr (40, 0))), some (.inl pl), some (.inl su), some (.inl 56), some (.inl v4_20), some (.inl v5_47), some (.inl v6_59), none] [] 122 s60 := by
                      intro N
                      induction N with
                      | zero => intro v6_59 s60 R61 F62 inv64 hm65; exact absurd hm65 (Nat.not_lt_zero _)
                      | succ N ih63 =>
                        intro v6_59 s60 R61 F62 inv64 hm65
                        have jj66 := F62 40 0 0 rfl
                        have jj67 := F62 40 0 1 rfl
                        have jj68 := F62 40 0 2 rfl
                        have jj69 := F62 40 0 3 rfl
                        refine px_iload hG dX11_withSum_68 rfl ?_
                        refine px_iload hG dX11_withSum_70 rfl ?_
                        refine px_ic_gt hG dX11_withSum_72 (tgt := 164) (by decide) ⟨by omega, by omega⟩ ⟨by omega, by omega⟩ (fun c70 => ?_) (fun c70 => ?_)
                        · refine px_iinc hG dX11_withSum_164 (Nat.le_of_ble_eq_true rfl) rfl (L2 := [some (.inr (.inr (40, 0))), some (.inl pl), some (.inl su), some (.inl 56), some (.inl v4_20), some (.inl (v5_47 + 1)), some (.inl v6_59), none]) rfl ?_
                          refine px_goto hG dX11_withSum_167 (tgt := 54) (by decide) ?_
                          refine px_weak hG (L2 := [some (.inr (.inr (40, 0))), some (.inl pl), some (.inl su), some (.inl 56), some (.inl v4_20), some (.inl (v5_47 + 1)), none, none]) ⟨Or.inr rfl, Or.inr rfl, Or.inr rfl, Or.inr rfl, Or.inr rfl, Or.inr rfl, Or.inl rfl, Or.inr rfl, trivial⟩ ?_
                          exact ih51 (v5_47 + 1) s60 R61 F62 (by omega) (by omega)
                        · refine px_iload hG dX11_withSum_75 rfl ?_
                          refine px_iload hG dX11_withSum_77 rfl ?_
                          refine px_imul hG dX11_withSum_79 ?_
                          have M1 := pm_mul_bd (a := v6_59) (b := v4_20) (A := 10) (B := 10) (by omega) (by omega)
                          refine px_istore hG dX11_withSum_80 (Nat.le_of_ble_eq_true rfl) (L2 := [some (.inr (.inr (40, 0))), some (.inl pl), some (.inl su), some (.inl 56), some (.inl v4_20), some (.inl v5_47), some (.inl v6_59), some (.inl (v6_59 * v4_20))]) rfl ?_
                          have L82 : ∀ (N : Nat) (v7_71 : Int) (s72 : pm_H), pm_Rng s72 → pm_Fr [(61, none)] s0 s72 → ((v6_59 * v4_20 ≤ v7_71 ∧ v7_71 ≤ 10000)) → (10001 - v7_71).toNat < N → G 82 [some (.inr (.inr (40, 0))), some (.inl pl), some (.inl su), some (.inl 56), some (.inl v4_20), some (.inl v5_47), some (.inl v6_59), some (.inl v7_71)] [] 122 s72 := by
                            intro N
                            induction N with
                            | zero => intro v7_71 s72 R73 F74 inv76 hm77; exact absurd hm77 (Nat.not_lt_zero _)
                            | succ N ih75 =>
                              intro v7_71 s72 R73 F74 inv76 hm77
                              have jj78 := F74 40 0 0 rfl
                              have jj79 := F74 40 0 1 rfl
                              have jj80 := F74 40 0 2 rfl
                              have jj81 := F74 40 0 3 rfl
                              refine px_iload hG dX11_withSum_82 rfl ?_
                              refine px_iload_n hG dX11_withSum_84 rfl ?_
                              refine px_ic_ge hG dX11_withSum_85 (tgt := 158) (by decide) ⟨by omega, by omega⟩ ⟨by omega, by omega⟩ (fun c82 => ?_) (fun c82 => ?_)
                              · refine px_iinc hG dX11_withSum_158 (Nat.le_of_ble_eq_true rfl) rfl (L2 := [some (.inr (.inr (40, 0))), some (.inl pl), some (.inl su), some (.inl 56), some (.inl v4_20), some (.inl v5_47), some (.inl (v6_59 + 1)), some (.inl v7_71)]) rfl ?_
                                refine px_goto hG dX11_withSum_161 (tgt := 68) (by decide) ?_
                                refine px_weak hG (L2 := [some (.inr (.inr (40, 0))), some (.inl pl), some (.inl su), some (.inl 56), some (.inl v4_20), some (.inl v5_47), some (.inl (v6_59 + 1)), none]) ⟨Or.inr rfl, Or.inr rfl, Or.inr rfl, Or.inr rfl, Or.inr rfl, Or.inr rfl, Or.inr rfl, Or.inl rfl, trivial⟩ ?_
                                exact ih63 (v6_59 + 1) s72 R73 F74 (by omega) (by omega)
                              · refine px_aload_n hG dX11_withSum_88 rfl ?_
                                refine gr_40_24 hG dX11_withSum_89 fl_X11_76 R73 ?_
                                refine px_iload_n hG dX11_withSum_92 rfl ?_
                                refine px_bipush hG dX11_withSum_93 (by decide) ?_
                                refine px_iload hG dX11_withSum_95 rfl ?_
                                refine px_imul hG dX11_withSum_97 ?_
                                refine px_iload hG dX11_withSum_98 rfl ?_
                                refine px_iadd hG dX11_withSum_100 ?_
                                refine px_imul hG dX11_withSum_101 ?_
                                refine px_iload hG dX11_withSum_102 rfl ?_
                                refine px_iadd hG dX11_withSum_104 ?_
                                refine px_dup2 hG dX11_withSum_105 ?_
                                refine al_61 hG dX11_withSum_106 (by omega) (fun z83 ez83 => ?_)
                                refine px_aload_n hG dX11_withSum_107 rfl ?_
                                refine gr_40_24 hG dX11_withSum_108 fl_X11_76 R73 ?_
                                refine px_iload_n hG dX11_withSum_111 rfl ?_
                                refine px_bipush hG dX11_withSum_112 (by decide) ?_
                                refine px_iload hG dX11_withSum_114 rfl ?_
                                refine px_iconst hG dX11_withSum_116 ?_
                                refine px_iadd hG dX11_withSum_117 ?_
                                refine px_imul hG dX11_withSum_118 ?_
                                refine px_iload hG dX11_withSum_119 rfl ?_
                                refine px_iadd hG dX11_withSum_121 ?_
                                refine px_iload hG dX11_withSum_122 rfl ?_
                                refine px_isub hG dX11_withSum_124 ?_
                                refine px_imul hG dX11_withSum_125 ?_
                                refine px_iload hG dX11_withSum_126 rfl ?_
                                refine px_iadd hG dX11_withSum_128 ?_
                                refine px_iload hG dX11_withSum_129 rfl ?_
                                refine px_iload hG dX11_withSum_131 rfl ?_
                                refine px_imul hG dX11_withSum_133 ?_
                                refine px_isub hG dX11_withSum_134 ?_
                                refine al_61 hG dX11_withSum_135 (by omega) (fun z84 ez84 => ?_)
                                refine px_aload_n hG dX11_withSum_136 rfl ?_
                                refine px_iload_n hG dX11_withSum_137 rfl ?_
                                refine px_iload hG dX11_withSum_138 rfl ?_
                                refine px_iload hG dX11_withSum_140 rfl ?_
                                refine px_isub hG dX11_withSum_142 ?_
                                refine px_isub hG dX11_withSum_143 ?_
                                refine px_iload hG dX11_withSum_144 rfl ?_
                                refine jv2 hG dX11_withSum_146 ct_X11_choose lk_X11_148 ⟨rfl, rfl⟩ (by decide) ⟨Nat.le_of_ble_eq_true rfl, Nat.le_of_ble_eq_true rfl, Nat.le_of_ble_eq_true rfl⟩ (Nat.le_of_ble_eq_true rfl) ⟨(pl - (v5_47 - v6_59)), v6_59, rfl, rfl, R73, ⟨by omega, (pm_J2_fr F74 rfl J2)⟩⟩ (fun r85 t86 pr85 => ?_)
                                obtain ⟨z87, rfl, rfl⟩ := pr85 _ _ rfl
                                show G 149 [some (.inr (.inr (40, 0))), some (.inl pl), some (.inl su), some (.inl 56), some (.inl v4_20), some (.inl v5_47), some (.inl v6_59), some (.inl v7_71)] [.inr (.inl z87), .inr (.inl z84), .inr (.inl z83), .inl ((56 * ((12 * v4_20) + v5_47)) + v7_71), .inr (.inr (61, 0))] 122 s72
                                refine px_lmul hG dX11_withSum_149 ?_
                                refine px_ladd hG dX11_withSum_150 ?_
                                refine as_61 hG dX11_withSum_151 R73 (by omega) (fun s88 qs88 Rs88 => ?_)
                                have Fs88 := pm_Fr_up (F74) qs88 (M := [(61, none)]) rfl
                                have jj89 := pm_nec qs88 (c' := 40) (r' := 0) (i' := 0) (by decide)
                                have jj90 := pm_nec qs88 (c' := 40) (r' := 0) (i' := 1) (by decide)
                                have jj91 := pm_nec qs88 (c' := 40) (r' := 0) (i' := 2) (by decide)
                                have jj92 := pm_nec qs88 (c' := 40) (r' := 0) (i' := 3) (by decide)
                                refine px_iinc hG dX11_withSum_152 (Nat.le_of_ble_eq_true rfl) rfl (L2 := [some (.inr (.inr (40, 0))), some (.inl pl), some (.inl su), some (.inl 56), some (.inl v4_20), some (.inl v5_47), some (.inl v6_59), some (.inl (v7_71 + 1))]) rfl ?_
                                refine px_goto hG dX11_withSum_155 (tgt := 82) (by decide) ?_
                                exact ih75 (v7_71 + 1) s88 Rs88 Fs88 (by omega) (by omega)
                          exact L82 _ (v6_59 * v4_20) s60 R61 F62 (by omega) (Nat.lt_succ_self _)
                    exact L68 _ 0 s48 R49 F50 (by omega) (Nat.lt_succ_self _)
              exact L54 _ 0 s21 R22 F23 (by omega) (Nat.lt_succ_self _)
        exact L45 _ pl s15 Rs15 Fs15 (by omega) (Nat.lt_succ_self _)
      refine px_ic_ge hG dX11_withSum_11 (tgt := 28) (by decide) ⟨by omega, by omega⟩ ⟨by omega, by omega⟩ (fun c12 => ?_) (fun c12 => ?_)
      · refine px_weak hG (L2 := [some (.inr (.inr (40, 0))), some (.inl pl), some (.inl su), some (.inl 56), none, none, none, none]) ⟨Or.inr rfl, Or.inr rfl, Or.inr rfl, Or.inr rfl, Or.inl rfl, Or.inr rfl, Or.inr rfl, Or.inr rfl, trivial⟩ ?_
        exact J28_13  (by omega)
      · refine px_aload_n hG dX11_withSum_14 rfl ?_
        refine gr_40_24 hG dX11_withSum_15 fl_X11_76 R3 ?_
        refine px_iload hG dX11_withSum_18 rfl ?_
        refine px_lconst hG dX11_withSum_20 ?_
        show G 21 [some (.inr (.inr (40, 0))), some (.inl pl), some (.inl su), some (.inl 56), some (.inl v4_1), none, none, none] [.inr (.inl 0), .inl v4_1, .inr (.inr (61, 0))] 122 s2
        refine as_61 hG dX11_withSum_21 R3 (by omega) (fun s93 qs93 Rs93 => ?_)
        have Fs93 := pm_Fr_up (F4) qs93 (M := [(61, none)]) rfl
        have jj94 := pm_nec qs93 (c' := 40) (r' := 0) (i' := 0) (by decide)
        have jj95 := pm_nec qs93 (c' := 40) (r' := 0) (i' := 1) (by decide)
        have jj96 := pm_nec qs93 (c' := 40) (r' := 0) (i' := 2) (by decide)
        have jj97 := pm_nec qs93 (c' := 40) (r' := 0) (i' := 3) (by decide)
        refine px_iinc hG dX11_withSum_22 (Nat.le_of_ble_eq_true rfl) rfl (L2 := [some (.inr (.inr (40, 0))), some (.inl pl), some (.inl su), some (.inl 56), some (.inl (v4_1 + 1)), none, none, none]) rfl ?_
        refine px_goto hG dX11_withSum_25 (tgt := 6) (by decide) ?_
        exact ih5 (v4_1 + 1) s93 Rs93 Fs93 (by omega) (by omega)
  exact L6 _ 0 s0 R0 pm_Fr_rf (by omega) (Nat.lt_succ_self _))
def pre_X11_withLucky (as : List pm_V) (n : Nat) (σ : pm_H) : Prop := ∃ pl vv : Int, as = [.inr (.inr (40, 0)), .inl pl, .inl vv] ∧ n = 122 ∧ pm_Rng σ ∧ ((1 ≤ pl ∧ pl ≤ 10 ∧ pm_in vv) ∧ pm_J2 σ)
def po_X11_withLucky (as : List pm_V) (_ : Nat) (σ : pm_H) (r : Option pm_V) (τ : pm_H) : Prop := ∀ pl vv : Int, as = [.inr (.inr (40, 0)), .inl pl, .inl vv] → ∃ v : Int, r = some (.inr (.inl v)) ∧ pm_Rng τ ∧ pm_Fr [(62, none)] σ τ
set_option maxRecDepth 20000 in
set_option maxHeartbeats 4000000 in
theorem ct_X11_withLucky : pm_Ct yX11_withLucky cX11_withLucky 5 (some .long) 1 0 pre_X11_withLucky po_X11_withLucky := pm_sound (ini := false) (by decide +kernel) pk_X11_withLucky (fun h => absurd h (by decide)) (by
  rintro as n s0 ⟨pl, vv, rfl, rfl, R0, hpre⟩
  refine ⟨by decide, Nat.le_of_ble_eq_true rfl, fun G hG => ?_⟩
  have hG : pm_Rules (RX11, 1, 122, cX11_withLucky, -1, (fun _ => 0), false, (some .long), po_X11_withLucky [.inr (.inr (40, 0)), .inl pl, .inl vv] 122 s0) G := hG
  show G 0 [some (.inr (.inr (40, 0))), some (.inl pl), some (.inl vv), none, none] [] 122 s0
  have B0 := pb_40_0 R0
  have B1 := pb_40_1 R0
  have B2 := pb_40_2 R0
  have B3 := pb_40_3 R0
  have J2 := hpre.2
  have HP := hpre.1
  have JK := J2.1
  have JW := J2.2
  refine px_iconst hG dX11_withLucky_0 ?_
  refine px_istore_n hG dX11_withLucky_1 (Nat.le_of_ble_eq_true rfl) (L2 := [some (.inr (.inr (40, 0))), some (.inl pl), some (.inl vv), some (.inl 0), none]) rfl ?_
  have L2 : ∀ (N : Nat) (v3_1 : Int) (s2 : pm_H), pm_Rng s2 → pm_Fr [(62, none)] s0 s2 → ((0 ≤ v3_1 ∧ v3_1 ≤ 10000)) → (10001 - v3_1).toNat < N → G 2 [some (.inr (.inr (40, 0))), some (.inl pl), some (.inl vv), some (.inl v3_1), none] [] 122 s2 := by
    intro N
    induction N with
    | zero => intro v3_1 s2 R3 F4 inv6 hm7; exact absurd hm7 (Nat.not_lt_zero _)
    | succ N ih5 =>
      intro v3_1 s2 R3 F4 inv6 hm7
      have jj8 := F4 40 0 0 rfl
      have jj9 := F4 40 0 1 rfl
      have jj10 := F4 40 0 2 rfl
      have jj11 := F4 40 0 3 rfl
      refine px_iload_n hG dX11_withLucky_2 rfl ?_
      refine px_bipush hG dX11_withLucky_3 (by decide) ?_
      have J30_13 : ((v3_1 ≥ 12)) → G 30 [some (.inr (.inr (40, 0))), some (.inl pl), some (.inl vv), none, none] [] 122 s2 := by
        intro inv14
        refine px_iconst hG dX11_withLucky_30 ?_
        refine px_istore_n hG dX11_withLucky_31 (Nat.le_of_ble_eq_true rfl) (L2 := [some (.inr (.inr (40, 0))), some (.inl pl), some (.inl vv), some (.inl 1), none]) rfl ?_
        have L32 : ∀ (N : Nat) (v3_15 : Int) (s16 : pm_H), pm_Rng s16 → pm_Fr [(62, none)] s0 s16 → ((1 ≤ v3_15 ∧ v3_15 ≤ 10000)) → (10001 - v3_15).toNat < N → G 32 [some (.inr (.inr (40, 0))), some (.inl pl), some (.inl vv), some (.inl v3_15), none] [] 122 s16 := by
          intro N
          induction N with
          | zero => intro v3_15 s16 R17 F18 inv20 hm21; exact absurd hm21 (Nat.not_lt_zero _)
          | succ N ih19 =>
            intro v3_15 s16 R17 F18 inv20 hm21
            have jj22 := F18 40 0 0 rfl
            have jj23 := F18 40 0 1 rfl
            have jj24 := F18 40 0 2 rfl
            have jj25 := F18 40 0 3 rfl
            refine px_iload_n hG dX11_withLucky_32 rfl ?_
            refine px_iload_n hG dX11_withLucky_33 rfl ?_
            have J101_27 : ((v3_15 ≥ pl)) → G 101 [some (.inr (.inr (40, 0))), none, some (.inl vv), none, none] [] 122 s16 := by
              intro inv28
              refine px_iload_n hG dX11_withLucky_101 rfl ?_
              refine px_i2l hG dX11_withLucky_102 ⟨by omega, by omega⟩ ?_
              refine px_lconst hG dX11_withLucky_103 ?_
              show G 104 [some (.inr (.inr (40, 0))), none, some (.inl vv), none, none] [.inr (.inl 0), .inr (.inl vv)] 122 s16
              refine px_ldc2 hG dX11_withLucky_104 cn_X11_240 ?_
              show G 107 [some (.inr (.inr (40, 0))), none, some (.inl vv), none, none] [.inr (.inl 11), .inr (.inl 0), .inr (.inl vv)] 122 s16
              refine js3 hG dX11_withLucky_107 ct_X11_in lk_X11_96 ⟨Nat.le_of_ble_eq_true rfl, Nat.le_of_ble_eq_true rfl, Nat.le_of_ble_eq_true rfl⟩ (Nat.le_of_ble_eq_true rfl) ⟨vv, 0, 11, rfl, rfl, R17, by omega⟩ (fun r29 t30 pr29 => ?_)
              obtain ⟨x31, rfl, rfl, br29⟩ := pr29 _ _ _ rfl
              show G 110 [some (.inr (.inr (40, 0))), none, some (.inl vv), none, none] [.inl x31] 122 s16
              refine px_if_eq hG dX11_withLucky_110 (tgt := 122) (by decide) ⟨by omega, by omega⟩ (fun c32 => ?_) (fun c32 => ?_)
              · refine px_lconst hG dX11_withLucky_122 ?_
                show G 123 [some (.inr (.inr (40, 0))), none, some (.inl vv), none, none] [.inr (.inl 0)] 122 s16
                have jj33 := F18 40 0 0 rfl
                have jj34 := F18 40 0 1 rfl
                have jj35 := F18 40 0 2 rfl
                have jj36 := F18 40 0 3 rfl
                exact px_lret (st := []) hG dX11_withLucky_123 rfl rfl (fun pl_1 vv_1 ee => by cases ee; exact ⟨_, rfl, R17, F18⟩)
              · refine px_aload_n hG dX11_withLucky_113 rfl ?_
                refine gr_40_25 hG dX11_withLucky_114 fl_X11_79 R17 ?_
                refine px_iload_n hG dX11_withLucky_117 rfl ?_
                refine al_62 hG dX11_withLucky_118 (by omega) (fun z37 ez37 => ?_)
                refine px_goto hG dX11_withLucky_119 (tgt := 123) (by decide) ?_
                have jj38 := F18 40 0 0 rfl
                have jj39 := F18 40 0 1 rfl
                have jj40 := F18 40 0 2 rfl
                have jj41 := F18 40 0 3 rfl
                exact px_lret (st := []) hG dX11_withLucky_123 rfl rfl (fun pl_1 vv_1 ee => by cases ee; exact ⟨_, rfl, R17, F18⟩)
            refine px_ic_ge hG dX11_withLucky_34 (tgt := 101) (by decide) ⟨by omega, by omega⟩ ⟨by omega, by omega⟩ (fun c26 => ?_) (fun c26 => ?_)
            · refine px_weak hG (L2 := [some (.inr (.inr (40, 0))), none, some (.inl vv), none, none]) ⟨Or.inr rfl, Or.inl rfl, Or.inr rfl, Or.inl rfl, Or.inr rfl, trivial⟩ ?_
              exact J101_27  (by omega)
            · refine px_bipush hG dX11_withLucky_37 (by decide) ?_
              refine px_istore hG dX11_withLucky_39 (Nat.le_of_ble_eq_true rfl) (L2 := [some (.inr (.inr (40, 0))), some (.inl pl), some (.inl vv), some (.inl v3_15), some (.inl 11)]) rfl ?_
              have L41 : ∀ (N : Nat) (v4_42 : Int) (s43 : pm_H), pm_Rng s43 → pm_Fr [(62, none)] s0 s43 → ((-10000 ≤ v4_42 ∧ v4_42 ≤ 11)) → (v4_42 + 10001).toNat < N → G 41 [some (.inr (.inr (40, 0))), some (.inl pl), some (.inl vv), some (.inl v3_15), some (.inl v4_42)] [] 122 s43 := by
                intro N
                induction N with
                | zero => intro v4_42 s43 R44 F45 inv47 hm48; exact absurd hm48 (Nat.not_lt_zero _)
                | succ N ih46 =>
                  intro v4_42 s43 R44 F45 inv47 hm48
                  have jj49 := F45 40 0 0 rfl
                  have jj50 := F45 40 0 1 rfl
                  have jj51 := F45 40 0 2 rfl
                  have jj52 := F45 40 0 3 rfl
                  refine px_iload hG dX11_withLucky_41 rfl ?_
                  refine px_if_lt hG dX11_withLucky_43 (tgt := 95) (by decide) ⟨by omega, by omega⟩ (fun c53 => ?_) (fun c53 => ?_)
                  · refine px_iinc hG dX11_withLucky_95 (Nat.le_of_ble_eq_true rfl) rfl (L2 := [some (.inr (.inr (40, 0))), some (.inl pl), some (.inl vv), some (.inl (v3_15 + 1)), some (.inl v4_42)]) rfl ?_
                    refine px_goto hG dX11_withLucky_98 (tgt := 32) (by decide) ?_
                    refine px_weak hG (L2 := [some (.inr (.inr (40, 0))), some (.inl pl), some (.inl vv), some (.inl (v3_15 + 1)), none]) ⟨Or.inr rfl, Or.inr rfl, Or.inr rfl, Or.inr rfl, Or.inl rfl, trivial⟩ ?_
                    exact ih19 (v3_15 + 1) s43 R44 F45 (by omega) (by omega)
                  · refine px_aload_n hG dX11_withLucky_46 rfl ?_
                    refine gr_40_25 hG dX11_withLucky_47 fl_X11_79 R44 ?_
                    refine px_iload hG dX11_withLucky_50 rfl ?_
                    refine px_iload_n hG dX11_withLucky_52 rfl ?_
                    refine px_i2l hG dX11_withLucky_53 ⟨by omega, by omega⟩ ?_
                    refine px_aload_n hG dX11_withLucky_54 rfl ?_
                    refine gr_40_25 hG dX11_withLucky_55 fl_X11_79 R44 ?_
                    refine px_iload hG dX11_withLucky_58 rfl ?_
                    refine al_62 hG dX11_withLucky_60 (by omega) (fun z54 ez54 => ?_)
                    refine px_lmul hG dX11_withLucky_61 ?_
                    refine px_iload hG dX11_withLucky_62 rfl ?_
                    refine px_if_le hG dX11_withLucky_64 (tgt := 86) (by decide) ⟨by omega, by omega⟩ (fun c55 => ?_) (fun c55 => ?_)
                    · refine px_lconst hG dX11_withLucky_86 ?_
                      show G 87 [some (.inr (.inr (40, 0))), some (.inl pl), some (.inl vv), some (.inl v3_15), some (.inl v4_42)] [.inr (.inl 0), .inr (.inl (v3_15 * z54)), .inl v4_42, .inr (.inr (62, 0))] 122 s43
                      refine px_ladd hG dX11_withLucky_87 ?_
                      refine as_62 hG dX11_withLucky_88 R44 (by omega) (fun s56 qs56 Rs56 => ?_)
                      have Fs56 := pm_Fr_up (F45) qs56 (M := [(62, none)]) rfl
                      have jj57 := pm_nec qs56 (c' := 40) (r' := 0) (i' := 0) (by decide)
                      have jj58 := pm_nec qs56 (c' := 40) (r' := 0) (i' := 1) (by decide)
                      have jj59 := pm_nec qs56 (c' := 40) (r' := 0) (i' := 2) (by decide)
                      have jj60 := pm_nec qs56 (c' := 40) (r' := 0) (i' := 3) (by decide)
                      refine px_iinc hG dX11_withLucky_89 (Nat.le_of_ble_eq_true rfl) rfl (L2 := [some (.inr (.inr (40, 0))), some (.inl pl), some (.inl vv), some (.inl v3_15), some (.inl (v4_42 + -1))]) rfl ?_
                      refine px_goto hG dX11_withLucky_92 (tgt := 41) (by decide) ?_
                      exact ih46 (v4_42 + -1) s56 Rs56 Fs56 (by omega) (by omega)
                    · refine px_iload_n hG dX11_withLucky_67 rfl ?_
                      refine px_iload_n hG dX11_withLucky_68 rfl ?_
                      refine px_isub hG dX11_withLucky_69 ?_
                      refine px_iconst hG dX11_withLucky_70 ?_
                      refine px_iadd hG dX11_withLucky_71 ?_
                      refine px_i2l hG dX11_withLucky_72 ⟨by omega, by omega⟩ ?_
                      refine px_aload_n hG dX11_withLucky_73 rfl ?_
                      refine gr_40_25 hG dX11_withLucky_74 fl_X11_79 R44 ?_
                      refine px_iload hG dX11_withLucky_77 rfl ?_
                      refine px_iconst hG dX11_withLucky_79 ?_
                      refine px_isub hG dX11_withLucky_80 ?_
                      refine al_62 hG dX11_withLucky_81 (by omega) (fun z61 ez61 => ?_)
                      refine px_lmul hG dX11_withLucky_82 ?_
                      refine px_goto hG dX11_withLucky_83 (tgt := 87) (by decide) ?_
                      refine px_ladd hG dX11_withLucky_87 ?_
                      refine as_62 hG dX11_withLucky_88 R44 (by omega) (fun s62 qs62 Rs62 => ?_)
                      have Fs62 := pm_Fr_up (F45) qs62 (M := [(62, none)]) rfl
                      have jj63 := pm_nec qs62 (c' := 40) (r' := 0) (i' := 0) (by decide)
                      have jj64 := pm_nec qs62 (c' := 40) (r' := 0) (i' := 1) (by decide)
                      have jj65 := pm_nec qs62 (c' := 40) (r' := 0) (i' := 2) (by decide)
                      have jj66 := pm_nec qs62 (c' := 40) (r' := 0) (i' := 3) (by decide)
                      refine px_iinc hG dX11_withLucky_89 (Nat.le_of_ble_eq_true rfl) rfl (L2 := [some (.inr (.inr (40, 0))), some (.inl pl), some (.inl vv), some (.inl v3_15), some (.inl (v4_42 + -1))]) rfl ?_
                      refine px_goto hG dX11_withLucky_92 (tgt := 41) (by decide) ?_
                      exact ih46 (v4_42 + -1) s62 Rs62 Fs62 (by omega) (by omega)
              exact L41 _ 11 s16 R17 F18 (by omega) (Nat.lt_succ_self _)
        exact L32 _ 1 s2 R3 F4 (by omega) (Nat.lt_succ_self _)
      refine px_ic_ge hG dX11_withLucky_5 (tgt := 30) (by decide) ⟨by omega, by omega⟩ ⟨by omega, by omega⟩ (fun c12 => ?_) (fun c12 => ?_)
      · refine px_weak hG (L2 := [some (.inr (.inr (40, 0))), some (.inl pl), some (.inl vv), none, none]) ⟨Or.inr rfl, Or.inr rfl, Or.inr rfl, Or.inl rfl, Or.inr rfl, trivial⟩ ?_
        exact J30_13  (by omega)
      · refine px_aload_n hG dX11_withLucky_8 rfl ?_
        refine gr_40_25 hG dX11_withLucky_9 fl_X11_79 R3 ?_
        refine px_iload_n hG dX11_withLucky_12 rfl ?_
        refine px_iload_n hG dX11_withLucky_13 rfl ?_
        refine px_iconst hG dX11_withLucky_14 ?_
        refine px_ic_ne hG dX11_withLucky_15 (tgt := 22) (by decide) ⟨by omega, by omega⟩ ⟨by omega, by omega⟩ (fun c67 => ?_) (fun c67 => ?_)
        · refine px_lconst hG dX11_withLucky_22 ?_
          show G 23 [some (.inr (.inr (40, 0))), some (.inl pl), some (.inl vv), some (.inl v3_1), none] [.inr (.inl 0), .inl v3_1, .inr (.inr (62, 0))] 122 s2
          refine as_62 hG dX11_withLucky_23 R3 (by omega) (fun s68 qs68 Rs68 => ?_)
          have Fs68 := pm_Fr_up (F4) qs68 (M := [(62, none)]) rfl
          have jj69 := pm_nec qs68 (c' := 40) (r' := 0) (i' := 0) (by decide)
          have jj70 := pm_nec qs68 (c' := 40) (r' := 0) (i' := 1) (by decide)
          have jj71 := pm_nec qs68 (c' := 40) (r' := 0) (i' := 2) (by decide)
          have jj72 := pm_nec qs68 (c' := 40) (r' := 0) (i' := 3) (by decide)
          refine px_iinc hG dX11_withLucky_24 (Nat.le_of_ble_eq_true rfl) rfl (L2 := [some (.inr (.inr (40, 0))), some (.inl pl), some (.inl vv), some (.inl (v3_1 + 1)), none]) rfl ?_
          refine px_goto hG dX11_withLucky_27 (tgt := 2) (by decide) ?_
          exact ih5 (v3_1 + 1) s68 Rs68 Fs68 (by omega) (by omega)
        · refine px_lconst hG dX11_withLucky_18 ?_
          show G 19 [some (.inr (.inr (40, 0))), some (.inl pl), some (.inl vv), some (.inl v3_1), none] [.inr (.inl 1), .inl v3_1, .inr (.inr (62, 0))] 122 s2
          refine px_goto hG dX11_withLucky_19 (tgt := 23) (by decide) ?_
          refine as_62 hG dX11_withLucky_23 R3 (by omega) (fun s73 qs73 Rs73 => ?_)
          have Fs73 := pm_Fr_up (F4) qs73 (M := [(62, none)]) rfl
          have jj74 := pm_nec qs73 (c' := 40) (r' := 0) (i' := 0) (by decide)
          have jj75 := pm_nec qs73 (c' := 40) (r' := 0) (i' := 1) (by decide)
          have jj76 := pm_nec qs73 (c' := 40) (r' := 0) (i' := 2) (by decide)
          have jj77 := pm_nec qs73 (c' := 40) (r' := 0) (i' := 3) (by decide)
          refine px_iinc hG dX11_withLucky_24 (Nat.le_of_ble_eq_true rfl) rfl (L2 := [some (.inr (.inr (40, 0))), some (.inl pl), some (.inl vv), some (.inl (v3_1 + 1)), none]) rfl ?_
          refine px_goto hG dX11_withLucky_27 (tgt := 2) (by decide) ?_
          exact ih5 (v3_1 + 1) s73 Rs73 Fs73 (by omega) (by omega)
  exact L2 _ 0 s0 R0 pm_Fr_rf (by omega) (Nat.lt_succ_self _))
def pre_X11_withParts (as : List pm_V) (n : Nat) (σ : pm_H) : Prop := ∃ pl vv : Int, as = [.inr (.inr (40, 0)), .inl pl, .inl vv] ∧ n = 122 ∧ pm_Rng σ ∧ ((1 ≤ pl ∧ pl ≤ 10 ∧ pm_in vv) ∧ pm_J2 σ)
def po_X11_withParts (as : List pm_V) (_ : Nat) (σ : pm_H) (r : Option pm_V) (τ : pm_H) : Prop := ∀ pl vv : Int, as = [.inr (.inr (40, 0)), .inl pl, .inl vv] → ∃ v : Int, r = some (.inr (.inl v)) ∧ pm_Rng τ ∧ pm_Fr [(63, none)] σ τ
set_option maxRecDepth 20000 in
set_option maxHeartbeats 4000000 in
theorem ct_X11_withParts : pm_Ct yX11_withParts cX11_withParts 6 (some .long) 2 0 pre_X11_withParts po_X11_withParts := pm_sound (ini := false) (by decide +kernel) pk_X11_withParts (fun h => absurd h (by decide)) (by
  rintro as n s0 ⟨pl, vv, rfl, rfl, R0, hpre⟩
  refine ⟨by decide, Nat.le_of_ble_eq_true rfl, fun G hG => ?_⟩
  have hG : pm_Rules (RX11, 2, 122, cX11_withParts, -1, (fun _ => 0), false, (some .long), po_X11_withParts [.inr (.inr (40, 0)), .inl pl, .inl vv] 122 s0) G := hG
  show G 0 [some (.inr (.inr (40, 0))), some (.inl pl), some (.inl vv), none, none, none] [] 122 s0
  have B0 := pb_40_0 R0
  have B1 := pb_40_1 R0
  have B2 := pb_40_2 R0
  have B3 := pb_40_3 R0
  have J2 := hpre.2
  have HP := hpre.1
  have JK := J2.1
  have JW := J2.2
  refine px_iconst hG dX11_withParts_0 ?_
  refine px_istore_n hG dX11_withParts_1 (Nat.le_of_ble_eq_true rfl) (L2 := [some (.inr (.inr (40, 0))), some (.inl pl), some (.inl vv), some (.inl 0), none, none]) rfl ?_
  have L2 : ∀ (N : Nat) (v3_1 : Int) (s2 : pm_H), pm_Rng s2 → pm_Fr [(63, none)] s0 s2 → ((0 ≤ v3_1 ∧ v3_1 ≤ 10000)) → (10001 - v3_1).toNat < N → G 2 [some (.inr (.inr (40, 0))), some (.inl pl), some (.inl vv), some (.inl v3_1), none, none] [] 122 s2 := by
    intro N
    induction N with
    | zero => intro v3_1 s2 R3 F4 inv6 hm7; exact absurd hm7 (Nat.not_lt_zero _)
    | succ N ih5 =>
      intro v3_1 s2 R3 F4 inv6 hm7
      have jj8 := F4 40 0 0 rfl
      have jj9 := F4 40 0 1 rfl
      have jj10 := F4 40 0 2 rfl
      have jj11 := F4 40 0 3 rfl
      refine px_iload_n hG dX11_withParts_2 rfl ?_
      refine px_sipush hG dX11_withParts_3 (by decide) ?_
      have J22_13 : ((v3_1 ≥ 144)) → G 22 [some (.inr (.inr (40, 0))), some (.inl pl), some (.inl vv), none, none, none] [] 122 s2 := by
        intro inv14
        refine px_aload_n hG dX11_withParts_22 rfl ?_
        refine gr_40_26 hG dX11_withParts_23 fl_X11_82 R3 ?_
        refine px_iconst hG dX11_withParts_26 ?_
        refine px_lconst hG dX11_withParts_27 ?_
        show G 28 [some (.inr (.inr (40, 0))), some (.inl pl), some (.inl vv), none, none, none] [.inr (.inl 1), .inl 0, .inr (.inr (63, 0))] 122 s2
        refine as_63 hG dX11_withParts_28 R3 (by omega) (fun s15 qs15 Rs15 => ?_)
        have Fs15 := pm_Fr_up (F4) qs15 (M := [(63, none)]) rfl
        have jj16 := pm_nec qs15 (c' := 40) (r' := 0) (i' := 0) (by decide)
        have jj17 := pm_nec qs15 (c' := 40) (r' := 0) (i' := 1) (by decide)
        have jj18 := pm_nec qs15 (c' := 40) (r' := 0) (i' := 2) (by decide)
        have jj19 := pm_nec qs15 (c' := 40) (r' := 0) (i' := 3) (by decide)
        refine px_iconst hG dX11_withParts_29 ?_
        refine px_istore_n hG dX11_withParts_30 (Nat.le_of_ble_eq_true rfl) (L2 := [some (.inr (.inr (40, 0))), some (.inl pl), some (.inl vv), some (.inl 1), none, none]) rfl ?_
        have L31 : ∀ (N : Nat) (v3_20 : Int) (s21 : pm_H), pm_Rng s21 → pm_Fr [(63, none)] s0 s21 → ((1 ≤ v3_20 ∧ v3_20 ≤ 10000)) → (10001 - v3_20).toNat < N → G 31 [some (.inr (.inr (40, 0))), some (.inl pl), some (.inl vv), some (.inl v3_20), none, none] [] 122 s21 := by
          intro N
          induction N with
          | zero => intro v3_20 s21 R22 F23 inv25 hm26; exact absurd hm26 (Nat.not_lt_zero _)
          | succ N ih24 =>
            intro v3_20 s21 R22 F23 inv25 hm26
            have jj27 := F23 40 0 0 rfl
            have jj28 := F23 40 0 1 rfl
            have jj29 := F23 40 0 2 rfl
            have jj30 := F23 40 0 3 rfl
            refine px_iload_n hG dX11_withParts_31 rfl ?_
            refine px_iload_n hG dX11_withParts_32 rfl ?_
            have J120_32 : ((v3_20 > pl)) → G 120 [some (.inr (.inr (40, 0))), some (.inl pl), some (.inl vv), none, none, none] [] 122 s21 := by
              intro inv33
              refine px_iload_n hG dX11_withParts_120 rfl ?_
              refine px_i2l hG dX11_withParts_121 ⟨by omega, by omega⟩ ?_
              refine px_lconst hG dX11_withParts_122 ?_
              show G 123 [some (.inr (.inr (40, 0))), some (.inl pl), some (.inl vv), none, none, none] [.inr (.inl 1), .inr (.inl vv)] 122 s21
              refine px_iload_n hG dX11_withParts_123 rfl ?_
              refine px_i2l hG dX11_withParts_124 ⟨by omega, by omega⟩ ?_
              refine js3 hG dX11_withParts_125 ct_X11_in lk_X11_96 ⟨Nat.le_of_ble_eq_true rfl, Nat.le_of_ble_eq_true rfl, Nat.le_of_ble_eq_true rfl⟩ (Nat.le_of_ble_eq_true rfl) ⟨vv, 1, pl, rfl, rfl, R22, by omega⟩ (fun r34 t35 pr34 => ?_)
              obtain ⟨x36, rfl, rfl, br34⟩ := pr34 _ _ _ rfl
              show G 128 [some (.inr (.inr (40, 0))), some (.inl pl), some (.inl vv), none, none, none] [.inl x36] 122 s21
              refine px_if_eq hG dX11_withParts_128 (tgt := 145) (by decide) ⟨by omega, by omega⟩ (fun c37 => ?_) (fun c37 => ?_)
              · refine px_lconst hG dX11_withParts_145 ?_
                show G 146 [some (.inr (.inr (40, 0))), some (.inl pl), some (.inl vv), none, none, none] [.inr (.inl 0)] 122 s21
                have jj38 := F23 40 0 0 rfl
                have jj39 := F23 40 0 1 rfl
                have jj40 := F23 40 0 2 rfl
                have jj41 := F23 40 0 3 rfl
                exact px_lret (st := []) hG dX11_withParts_146 rfl rfl (fun pl_1 vv_1 ee => by cases ee; exact ⟨_, rfl, R22, F23⟩)
              · refine px_aload_n hG dX11_withParts_131 rfl ?_
                refine gr_40_26 hG dX11_withParts_132 fl_X11_82 R22 ?_
                refine px_bipush hG dX11_withParts_135 (by decide) ?_
                refine px_iload_n hG dX11_withParts_137 rfl ?_
                refine px_imul hG dX11_withParts_138 ?_
                refine px_iload_n hG dX11_withParts_139 rfl ?_
                refine px_iadd hG dX11_withParts_140 ?_
                refine al_63 hG dX11_withParts_141 (by omega) (fun z42 ez42 => ?_)
                refine px_goto hG dX11_withParts_142 (tgt := 146) (by decide) ?_
                have jj43 := F23 40 0 0 rfl
                have jj44 := F23 40 0 1 rfl
                have jj45 := F23 40 0 2 rfl
                have jj46 := F23 40 0 3 rfl
                exact px_lret (st := []) hG dX11_withParts_146 rfl rfl (fun pl_1 vv_1 ee => by cases ee; exact ⟨_, rfl, R22, F23⟩)
            refine px_ic_gt hG dX11_withParts_33 (tgt := 120) (by decide) ⟨by omega, by omega⟩ ⟨by omega, by omega⟩ (fun c31 => ?_) (fun c31 => ?_)
            · refine px_weak hG (L2 := [some (.inr (.inr (40, 0))), some (.inl pl), some (.inl vv), none, none, none]) ⟨Or.inr rfl, Or.inr rfl, Or.inr rfl, Or.inl rfl, Or.inr rfl, Or.inr rfl, trivial⟩ ?_
              exact J120_32  (by omega)
            · refine px_iconst hG dX11_withParts_36 ?_
              refine px_istore hG dX11_withParts_37 (Nat.le_of_ble_eq_true rfl) (L2 := [some (.inr (.inr (40, 0))), some (.inl pl), some (.inl vv), some (.inl v3_20), some (.inl 1), none]) rfl ?_
              have L39 : ∀ (N : Nat) (v4_47 : Int) (s48 : pm_H), pm_Rng s48 → pm_Fr [(63, none)] s0 s48 → ((1 ≤ v4_47 ∧ v4_47 ≤ 10000)) → (10001 - v4_47).toNat < N → G 39 [some (.inr (.inr (40, 0))), some (.inl pl), some (.inl vv), some (.inl v3_20), some (.inl v4_47), none] [] 122 s48 := by
                intro N
                induction N with
                | zero => intro v4_47 s48 R49 F50 inv52 hm53; exact absurd hm53 (Nat.not_lt_zero _)
                | succ N ih51 =>
                  intro v4_47 s48 R49 F50 inv52 hm53
                  have jj54 := F50 40 0 0 rfl
                  have jj55 := F50 40 0 1 rfl
                  have jj56 := F50 40 0 2 rfl
                  have jj57 := F50 40 0 3 rfl
                  refine px_iload hG dX11_withParts_39 rfl ?_
                  refine px_iload_n hG dX11_withParts_41 rfl ?_
                  refine px_ic_gt hG dX11_withParts_42 (tgt := 114) (by decide) ⟨by omega, by omega⟩ ⟨by omega, by omega⟩ (fun c58 => ?_) (fun c58 => ?_)
                  · refine px_iinc hG dX11_withParts_114 (Nat.le_of_ble_eq_true rfl) rfl (L2 := [some (.inr (.inr (40, 0))), some (.inl pl), some (.inl vv), some (.inl (v3_20 + 1)), some (.inl v4_47), none]) rfl ?_
                    refine px_goto hG dX11_withParts_117 (tgt := 31) (by decide) ?_
                    refine px_weak hG (L2 := [some (.inr (.inr (40, 0))), some (.inl pl), some (.inl vv), some (.inl (v3_20 + 1)), none, none]) ⟨Or.inr rfl, Or.inr rfl, Or.inr rfl, Or.inr rfl, Or.inl rfl, Or.inr rfl, trivial⟩ ?_
                    exact ih24 (v3_20 + 1) s48 R49 F50 (by omega) (by omega)
                  · refine px_iconst hG dX11_withParts_45 ?_
                    refine px_istore hG dX11_withParts_46 (Nat.le_of_ble_eq_true rfl) (L2 := [some (.inr (.inr (40, 0))), some (.inl pl), some (.inl vv), some (.inl v3_20), some (.inl v4_47), some (.inl 1)]) rfl ?_
                    have L48 : ∀ (N : Nat) (v5_59 : Int) (s60 : pm_H), pm_Rng s60 → pm_Fr [(63, none)] s0 s60 → ((1 ≤ v5_59 ∧ v5_59 ≤ 10000)) → (10001 - v5_59).toNat < N → G 48 [some (.inr (.inr (40, 0))), some (.inl pl), some (.inl vv), some (.inl v3_20), some (.inl v4_47), some (.inl v5_59)] [] 122 s60 := by
                      intro N
                      induction N with
                      | zero => intro v5_59 s60 R61 F62 inv64 hm65; exact absurd hm65 (Nat.not_lt_zero _)
                      | succ N ih63 =>
                        intro v5_59 s60 R61 F62 inv64 hm65
                        have jj66 := F62 40 0 0 rfl
                        have jj67 := F62 40 0 1 rfl
                        have jj68 := F62 40 0 2 rfl
                        have jj69 := F62 40 0 3 rfl
                        refine px_iload hG dX11_withParts_48 rfl ?_
                        refine px_iload hG dX11_withParts_50 rfl ?_
                        refine px_ic_gt hG dX11_withParts_52 (tgt := 108) (by decide) ⟨by omega, by omega⟩ ⟨by omega, by omega⟩ (fun c70 => ?_) (fun c70 => ?_)
                        · refine px_iinc hG dX11_withParts_108 (Nat.le_of_ble_eq_true rfl) rfl (L2 := [some (.inr (.inr (40, 0))), some (.inl pl), some (.inl vv), some (.inl v3_20), some (.inl (v4_47 + 1)), some (.inl v5_59)]) rfl ?_
                          refine px_goto hG dX11_withParts_111 (tgt := 39) (by decide) ?_
                          refine px_weak hG (L2 := [some (.inr (.inr (40, 0))), some (.inl pl), some (.inl vv), some (.inl v3_20), some (.inl (v4_47 + 1)), none]) ⟨Or.inr rfl, Or.inr rfl, Or.inr rfl, Or.inr rfl, Or.inr rfl, Or.inl rfl, trivial⟩ ?_
                          exact ih51 (v4_47 + 1) s60 R61 F62 (by omega) (by omega)
                        · refine px_aload_n hG dX11_withParts_55 rfl ?_
                          refine gr_40_26 hG dX11_withParts_56 fl_X11_82 R61 ?_
                          refine px_bipush hG dX11_withParts_59 (by decide) ?_
                          refine px_iload_n hG dX11_withParts_61 rfl ?_
                          refine px_imul hG dX11_withParts_62 ?_
                          refine px_iload hG dX11_withParts_63 rfl ?_
                          refine px_iadd hG dX11_withParts_65 ?_
                          refine px_dup2 hG dX11_withParts_66 ?_
                          refine al_63 hG dX11_withParts_67 (by omega) (fun z71 ez71 => ?_)
                          refine px_aload_n hG dX11_withParts_68 rfl ?_
                          refine gr_40_26 hG dX11_withParts_69 fl_X11_82 R61 ?_
                          refine px_bipush hG dX11_withParts_72 (by decide) ?_
                          refine px_iload_n hG dX11_withParts_74 rfl ?_
                          refine px_iconst hG dX11_withParts_75 ?_
                          refine px_isub hG dX11_withParts_76 ?_
                          refine px_imul hG dX11_withParts_77 ?_
                          refine px_iload hG dX11_withParts_78 rfl ?_
                          refine px_iadd hG dX11_withParts_80 ?_
                          refine px_iload hG dX11_withParts_81 rfl ?_
                          refine px_isub hG dX11_withParts_83 ?_
                          refine al_63 hG dX11_withParts_84 (by omega) (fun z72 ez72 => ?_)
                          refine px_aload_n hG dX11_withParts_85 rfl ?_
                          refine px_iload hG dX11_withParts_86 rfl ?_
                          refine px_iload hG dX11_withParts_88 rfl ?_
                          refine jv2 hG dX11_withParts_90 ct_X11_choose lk_X11_148 ⟨rfl, rfl⟩ (by decide) ⟨Nat.le_of_ble_eq_true rfl, Nat.le_of_ble_eq_true rfl, Nat.le_of_ble_eq_true rfl⟩ (Nat.le_of_ble_eq_true rfl) ⟨v4_47, v5_59, rfl, rfl, R61, ⟨by omega, (pm_J2_fr F62 rfl J2)⟩⟩ (fun r73 t74 pr73 => ?_)
                          obtain ⟨z75, rfl, rfl⟩ := pr73 _ _ rfl
                          show G 93 [some (.inr (.inr (40, 0))), some (.inl pl), some (.inl vv), some (.inl v3_20), some (.inl v4_47), some (.inl v5_59)] [.inr (.inl z75), .inr (.inl z72), .inr (.inl z71), .inl ((12 * v3_20) + v4_47), .inr (.inr (63, 0))] 122 s60
                          refine px_lmul hG dX11_withParts_93 ?_
                          refine px_iload hG dX11_withParts_94 rfl ?_
                          refine js1 hG dX11_withParts_96 ct_X11_primesOf lk_X11_199 ⟨Nat.le_of_ble_eq_true rfl, Nat.le_of_ble_eq_true rfl, Nat.le_of_ble_eq_true rfl⟩ (Nat.le_of_ble_eq_true rfl) ⟨v5_59, rfl, rfl, R61, by omega⟩ (fun r76 t77 pr76 => ?_)
                          obtain ⟨z78, rfl, rfl⟩ := pr76 _ rfl
                          show G 99 [some (.inr (.inr (40, 0))), some (.inl pl), some (.inl vv), some (.inl v3_20), some (.inl v4_47), some (.inl v5_59)] [.inr (.inl z78), .inr (.inl (z72 * z75)), .inr (.inl z71), .inl ((12 * v3_20) + v4_47), .inr (.inr (63, 0))] 122 s60
                          refine px_lmul hG dX11_withParts_99 ?_
                          refine px_ladd hG dX11_withParts_100 ?_
                          refine as_63 hG dX11_withParts_101 R61 (by omega) (fun s79 qs79 Rs79 => ?_)
                          have Fs79 := pm_Fr_up (F62) qs79 (M := [(63, none)]) rfl
                          have jj80 := pm_nec qs79 (c' := 40) (r' := 0) (i' := 0) (by decide)
                          have jj81 := pm_nec qs79 (c' := 40) (r' := 0) (i' := 1) (by decide)
                          have jj82 := pm_nec qs79 (c' := 40) (r' := 0) (i' := 2) (by decide)
                          have jj83 := pm_nec qs79 (c' := 40) (r' := 0) (i' := 3) (by decide)
                          refine px_iinc hG dX11_withParts_102 (Nat.le_of_ble_eq_true rfl) rfl (L2 := [some (.inr (.inr (40, 0))), some (.inl pl), some (.inl vv), some (.inl v3_20), some (.inl v4_47), some (.inl (v5_59 + 1))]) rfl ?_
                          refine px_goto hG dX11_withParts_105 (tgt := 48) (by decide) ?_
                          exact ih63 (v5_59 + 1) s79 Rs79 Fs79 (by omega) (by omega)
                    exact L48 _ 1 s48 R49 F50 (by omega) (Nat.lt_succ_self _)
              exact L39 _ 1 s21 R22 F23 (by omega) (Nat.lt_succ_self _)
        exact L31 _ 1 s15 Rs15 Fs15 (by omega) (Nat.lt_succ_self _)
      refine px_ic_ge hG dX11_withParts_6 (tgt := 22) (by decide) ⟨by omega, by omega⟩ ⟨by omega, by omega⟩ (fun c12 => ?_) (fun c12 => ?_)
      · refine px_weak hG (L2 := [some (.inr (.inr (40, 0))), some (.inl pl), some (.inl vv), none, none, none]) ⟨Or.inr rfl, Or.inr rfl, Or.inr rfl, Or.inl rfl, Or.inr rfl, Or.inr rfl, trivial⟩ ?_
        exact J22_13  (by omega)
      · refine px_aload_n hG dX11_withParts_9 rfl ?_
        refine gr_40_26 hG dX11_withParts_10 fl_X11_82 R3 ?_
        refine px_iload_n hG dX11_withParts_13 rfl ?_
        refine px_lconst hG dX11_withParts_14 ?_
        show G 15 [some (.inr (.inr (40, 0))), some (.inl pl), some (.inl vv), some (.inl v3_1), none, none] [.inr (.inl 0), .inl v3_1, .inr (.inr (63, 0))] 122 s2
        refine as_63 hG dX11_withParts_15 R3 (by omega) (fun s84 qs84 Rs84 => ?_)
        have Fs84 := pm_Fr_up (F4) qs84 (M := [(63, none)]) rfl
        have jj85 := pm_nec qs84 (c' := 40) (r' := 0) (i' := 0) (by decide)
        have jj86 := pm_nec qs84 (c' := 40) (r' := 0) (i' := 1) (by decide)
        have jj87 := pm_nec qs84 (c' := 40) (r' := 0) (i' := 2) (by decide)
        have jj88 := pm_nec qs84 (c' := 40) (r' := 0) (i' := 3) (by decide)
        refine px_iinc hG dX11_withParts_16 (Nat.le_of_ble_eq_true rfl) rfl (L2 := [some (.inr (.inr (40, 0))), some (.inl pl), some (.inl vv), some (.inl (v3_1 + 1)), none, none]) rfl ?_
        refine px_goto hG dX11_withParts_19 (tgt := 2) (by decide) ?_
        exact ih5 (v3_1 + 1) s84 Rs84 Fs84 (by omega) (by omega)
  exact L2 _ 0 s0 R0 pm_Fr_rf (by omega) (Nat.lt_succ_self _))
def pre_X11_spread (as : List pm_V) (n : Nat) (σ : pm_H) : Prop := ∃ aa ab ac : Int, as = [.inr (.inr (40, 0)), .inl aa, .inl ab, .inl ac] ∧ n = 122 ∧ pm_Rng σ ∧ ((pm_in aa ∧ pm_in ab ∧ pm_in ac) ∧ pm_J2 σ)
def po_X11_spread (as : List pm_V) (_ : Nat) (σ : pm_H) (r : Option pm_V) (τ : pm_H) : Prop := ∀ aa ab ac : Int, as = [.inr (.inr (40, 0)), .inl aa, .inl ab, .inl ac] → ∃ v : Int, r = some (.inr (.inl v)) ∧ pm_Rng τ ∧ pm_Fr [(47, none), (48, none), (61, none), (62, none), (63, none)] σ τ
set_option maxRecDepth 20000 in
set_option maxHeartbeats 4000000 in
theorem ct_X11_spread : pm_Ct yX11_spread cX11_spread 6 (some .long) 3 0 pre_X11_spread po_X11_spread := pm_sound (ini := false) (by decide +kernel) pk_X11_spread (fun h => absurd h (by decide)) (by
  rintro as n s0 ⟨aa, ab, ac, rfl, rfl, R0, hpre⟩
  refine ⟨by decide, Nat.le_of_ble_eq_true rfl, fun G hG => ?_⟩
  have hG : pm_Rules (RX11, 3, 122, cX11_spread, -1, (fun _ => 0), false, (some .long), po_X11_spread [.inr (.inr (40, 0)), .inl aa, .inl ab, .inl ac] 122 s0) G := hG
  show G 0 [some (.inr (.inr (40, 0))), some (.inl aa), some (.inl ab), some (.inl ac), none, none] [] 122 s0
  have B0 := pb_40_0 R0
  have B1 := pb_40_1 R0
  have B2 := pb_40_2 R0
  have B3 := pb_40_3 R0
  have J2 := hpre.2
  have HP := hpre.1
  have JK := J2.1
  have JW := J2.2
  refine px_iload_n hG dX11_spread_0 rfl ?_
  refine px_i2l hG dX11_spread_1 ⟨by omega, by omega⟩ ?_
  refine px_lconst hG dX11_spread_2 ?_
  show G 3 [some (.inr (.inr (40, 0))), some (.inl aa), some (.inl ab), some (.inl ac), none, none] [.inr (.inl 0), .inr (.inl aa)] 122 s0
  refine px_ldc2 hG dX11_spread_3 cn_X11_238 ?_
  show G 6 [some (.inr (.inr (40, 0))), some (.inl aa), some (.inl ab), some (.inl ac), none, none] [.inr (.inl 5), .inr (.inl 0), .inr (.inl aa)] 122 s0
  refine js3 hG dX11_spread_6 ct_X11_in lk_X11_96 ⟨Nat.le_of_ble_eq_true rfl, Nat.le_of_ble_eq_true rfl, Nat.le_of_ble_eq_true rfl⟩ (Nat.le_of_ble_eq_true rfl) ⟨aa, 0, 5, rfl, rfl, R0, by omega⟩ (fun r1 t2 pr1 => ?_)
  obtain ⟨x3, rfl, rfl, br1⟩ := pr1 _ _ _ rfl
  show G 9 [some (.inr (.inr (40, 0))), some (.inl aa), some (.inl ab), some (.inl ac), none, none] [.inl x3] 122 s0
  refine px_if_eq hG dX11_spread_9 (tgt := 24) (by decide) ⟨by omega, by omega⟩ (fun c4 => ?_) (fun c4 => ?_)
  · refine px_ldc2 hG dX11_spread_24 cn_X11_162 ?_
    show G 27 [some (.inr (.inr (40, 0))), some (.inl aa), some (.inl ab), some (.inl ac), none, none] [.inr (.inl (-1))] 122 s0
    exact px_lret (st := []) hG dX11_spread_27 rfl rfl (fun aa_1 ab_1 ac_1 ee => by cases ee; exact ⟨_, rfl, R0, pm_Fr_rf⟩)
  · refine px_iload_n hG dX11_spread_12 rfl ?_
    refine px_i2l hG dX11_spread_13 ⟨by omega, by omega⟩ ?_
    refine px_lconst hG dX11_spread_14 ?_
    show G 15 [some (.inr (.inr (40, 0))), some (.inl aa), some (.inl ab), some (.inl ac), none, none] [.inr (.inl 1), .inr (.inl ab)] 122 s0
    refine px_ldc2 hG dX11_spread_15 cn_X11_100 ?_
    show G 18 [some (.inr (.inr (40, 0))), some (.inl aa), some (.inl ab), some (.inl ac), none, none] [.inr (.inl 10), .inr (.inl 1), .inr (.inl ab)] 122 s0
    refine js3 hG dX11_spread_18 ct_X11_in lk_X11_96 ⟨Nat.le_of_ble_eq_true rfl, Nat.le_of_ble_eq_true rfl, Nat.le_of_ble_eq_true rfl⟩ (Nat.le_of_ble_eq_true rfl) ⟨ab, 1, 10, rfl, rfl, R0, by omega⟩ (fun r5 t6 pr5 => ?_)
    obtain ⟨x7, rfl, rfl, br5⟩ := pr5 _ _ _ rfl
    show G 21 [some (.inr (.inr (40, 0))), some (.inl aa), some (.inl ab), some (.inl ac), none, none] [.inl x7] 122 s0
    refine px_if_ne hG dX11_spread_21 (tgt := 28) (by decide) ⟨by omega, by omega⟩ (fun c8 => ?_) (fun c8 => ?_)
    · refine px_iload_n hG dX11_spread_28 rfl ?_
      refine px_if_ne hG dX11_spread_29 (tgt := 61) (by decide) ⟨by omega, by omega⟩ (fun c9 => ?_) (fun c9 => ?_)
      · refine px_iload_n hG dX11_spread_61 rfl ?_
        refine px_iconst hG dX11_spread_62 ?_
        refine px_ic_ne hG dX11_spread_63 (tgt := 73) (by decide) ⟨by omega, by omega⟩ ⟨by omega, by omega⟩ (fun c10 => ?_) (fun c10 => ?_)
        · refine px_iload_n hG dX11_spread_73 rfl ?_
          refine px_iconst hG dX11_spread_74 ?_
          refine px_ic_ne hG dX11_spread_75 (tgt := 101) (by decide) ⟨by omega, by omega⟩ ⟨by omega, by omega⟩ (fun c11 => ?_) (fun c11 => ?_)
          · refine px_iload_n hG dX11_spread_101 rfl ?_
            refine px_i2l hG dX11_spread_102 ⟨by omega, by omega⟩ ?_
            refine px_iload_n hG dX11_spread_103 rfl ?_
            refine px_iconst hG dX11_spread_104 ?_
            have J113_14 : ∀ (j13 : Int), ((j13 = 0 ∧ aa = 4) ∨ j13 = 1) → G 113 [some (.inr (.inr (40, 0))), some (.inl aa), some (.inl ab), some (.inl ac), none, none] [.inr (.inl j13), .inr (.inl ac)] 122 s0 := by
              intro j13 inv15
              refine px_iload_n hG dX11_spread_113 rfl ?_
              refine px_i2l hG dX11_spread_114 ⟨by omega, by omega⟩ ?_
              refine js3 hG dX11_spread_115 ct_X11_in lk_X11_96 ⟨Nat.le_of_ble_eq_true rfl, Nat.le_of_ble_eq_true rfl, Nat.le_of_ble_eq_true rfl⟩ (Nat.le_of_ble_eq_true rfl) ⟨ac, j13, ab, rfl, rfl, R0, by omega⟩ (fun r16 t17 pr16 => ?_)
              obtain ⟨x18, rfl, rfl, br16⟩ := pr16 _ _ _ rfl
              show G 118 [some (.inr (.inr (40, 0))), some (.inl aa), some (.inl ab), some (.inl ac), none, none] [.inl x18] 122 s0
              refine px_if_ne hG dX11_spread_118 (tgt := 123) (by decide) ⟨by omega, by omega⟩ (fun c19 => ?_) (fun c19 => ?_)
              · refine px_iload_n hG dX11_spread_123 rfl ?_
                refine px_iconst hG dX11_spread_124 ?_
                refine px_ic_ne hG dX11_spread_125 (tgt := 156) (by decide) ⟨by omega, by omega⟩ ⟨by omega, by omega⟩ (fun c20 => ?_) (fun c20 => ?_)
                · refine px_aload_n hG dX11_spread_156 rfl ?_
                  refine jv0 hG dX11_spread_157 ct_X11_clearTold lk_X11_152 ⟨rfl, rfl⟩ (by decide) ⟨Nat.le_of_ble_eq_true rfl, Nat.le_of_ble_eq_true rfl, Nat.le_of_ble_eq_true rfl⟩ (Nat.le_of_ble_eq_true rfl) ⟨rfl, rfl, R0, J2⟩ (fun r21 t23 pr21 => ?_)
                  obtain ⟨rfl, Rt23, Ft23, br21⟩ := pr21 rfl
                  have Ff25 := pm_Fr_mono Ft23 (M := [(47, none), (48, none), (61, none), (62, none), (63, none)]) rfl
                  have jj26 := Ft23 40 0 0 rfl
                  have jj27 := Ft23 40 0 1 rfl
                  have jj28 := Ft23 40 0 2 rfl
                  have jj29 := Ft23 40 0 3 rfl
                  show G 160 [some (.inr (.inr (40, 0))), some (.inl aa), some (.inl ab), some (.inl ac), none, none] [] 122 t23
                  refine px_iload_n hG dX11_spread_160 rfl ?_
                  refine px_iconst hG dX11_spread_161 ?_
                  refine px_ic_ne hG dX11_spread_162 (tgt := 181) (by decide) ⟨by omega, by omega⟩ ⟨by omega, by omega⟩ (fun c30 => ?_) (fun c30 => ?_)
                  · refine px_aload_n hG dX11_spread_181 rfl ?_
                    refine px_iload_n hG dX11_spread_182 rfl ?_
                    refine px_iload_n hG dX11_spread_183 rfl ?_
                    refine jv2 hG dX11_spread_184 ct_X11_finishes lk_X11_155 ⟨rfl, rfl⟩ (by decide) ⟨Nat.le_of_ble_eq_true rfl, Nat.le_of_ble_eq_true rfl, Nat.le_of_ble_eq_true rfl⟩ (Nat.le_of_ble_eq_true rfl) ⟨ab, ab, rfl, rfl, Rt23, ⟨by omega, (pm_J2_fr Ff25 rfl J2)⟩⟩ (fun r31 t33 pr31 => ?_)
                    obtain ⟨z34, rfl, Rt33, Ft33⟩ := pr31 _ _ rfl
                    have Ff35 := pm_Fr_tr Ff25 Ft33 (M := [(47, none), (48, none), (61, none), (62, none), (63, none)]) rfl
                    have jj36 := Ft33 40 0 0 rfl
                    have jj37 := Ft33 40 0 1 rfl
                    have jj38 := Ft33 40 0 2 rfl
                    have jj39 := Ft33 40 0 3 rfl
                    show G 187 [some (.inr (.inr (40, 0))), some (.inl aa), some (.inl ab), some (.inl ac), none, none] [.inr (.inl z34)] 122 t33
                    refine px_lstore hG dX11_spread_187 (Nat.le_of_ble_eq_true rfl) (L2 := [some (.inr (.inr (40, 0))), some (.inl aa), some (.inl ab), some (.inl ac), some (.inr (.inl z34)), none]) rfl ?_
                    refine px_lload hG dX11_spread_189 rfl ?_
                    refine px_lconst hG dX11_spread_191 ?_
                    show G 192 [some (.inr (.inr (40, 0))), some (.inl aa), some (.inl ab), some (.inl ac), some (.inr (.inl z34)), none] [.inr (.inl 0), .inr (.inl z34)] 122 t33
                    refine px_lcmpA hG dX11_spread_192 (fun x40 bx40 cx40 => ?_)
                    refine px_if_ne hG dX11_spread_193 (tgt := 200) (by decide) ⟨by omega, by omega⟩ (fun c41 => ?_) (fun c41 => ?_)
                    · refine px_aload_n hG dX11_spread_200 rfl ?_
                      refine gr_40_11 hG dX11_spread_201 fl_X11_36 Rt33 ?_
                      refine px_bipush hG dX11_spread_204 (by decide) ?_
                      refine px_iload_n hG dX11_spread_206 rfl ?_
                      refine px_iadd hG dX11_spread_207 ?_
                      refine px_iload_n hG dX11_spread_208 rfl ?_
                      refine px_isub hG dX11_spread_209 ?_
                      refine al_48 hG dX11_spread_210 (by omega) (fun z42 ez42 => ?_)
                      have jj43 := Ff35 40 0 0 rfl
                      have jj44 := Ff35 40 0 1 rfl
                      have jj45 := Ff35 40 0 2 rfl
                      have jj46 := Ff35 40 0 3 rfl
                      exact px_lret (st := []) hG dX11_spread_211 rfl rfl (fun aa_1 ab_1 ac_1 ee => by cases ee; exact ⟨_, rfl, Rt33, Ff35⟩)
                    · refine px_lconst hG dX11_spread_196 ?_
                      show G 197 [some (.inr (.inr (40, 0))), some (.inl aa), some (.inl ab), some (.inl ac), some (.inr (.inl z34)), none] [.inr (.inl 0)] 122 t33
                      refine px_goto hG dX11_spread_197 (tgt := 211) (by decide) ?_
                      have jj47 := Ff35 40 0 0 rfl
                      have jj48 := Ff35 40 0 1 rfl
                      have jj49 := Ff35 40 0 2 rfl
                      have jj50 := Ff35 40 0 3 rfl
                      exact px_lret (st := []) hG dX11_spread_211 rfl rfl (fun aa_1 ab_1 ac_1 ee => by cases ee; exact ⟨_, rfl, Rt33, Ff35⟩)
                  · refine px_aload_n hG dX11_spread_165 rfl ?_
                    refine gr_40_10 hG dX11_spread_166 fl_X11_33 Rt23 ?_
                    refine px_iload_n hG dX11_spread_169 rfl ?_
                    refine px_iconst hG dX11_spread_170 ?_
                    refine as_47 hG dX11_spread_171 Rt23 (by omega) (by omega) (fun s51 qs51 Rs51 => ?_)
                    have Fs51 := pm_Fr_up (Ff25) qs51 (M := [(47, none), (48, none), (61, none), (62, none), (63, none)]) rfl
                    have jj52 := pm_nec qs51 (c' := 40) (r' := 0) (i' := 0) (by decide)
                    have jj53 := pm_nec qs51 (c' := 40) (r' := 0) (i' := 1) (by decide)
                    have jj54 := pm_nec qs51 (c' := 40) (r' := 0) (i' := 2) (by decide)
                    have jj55 := pm_nec qs51 (c' := 40) (r' := 0) (i' := 3) (by decide)
                    refine px_aload_n hG dX11_spread_172 rfl ?_
                    refine px_iload_n hG dX11_spread_173 rfl ?_
                    refine px_iload_n hG dX11_spread_174 rfl ?_
                    refine px_iconst hG dX11_spread_175 ?_
                    refine px_isub hG dX11_spread_176 ?_
                    refine jv2 hG dX11_spread_177 ct_X11_finishes lk_X11_155 ⟨rfl, rfl⟩ (by decide) ⟨Nat.le_of_ble_eq_true rfl, Nat.le_of_ble_eq_true rfl, Nat.le_of_ble_eq_true rfl⟩ (Nat.le_of_ble_eq_true rfl) ⟨ab, (ab - 1), rfl, rfl, Rs51, ⟨by omega, (pm_J2_fr Fs51 rfl J2)⟩⟩ (fun r56 t58 pr56 => ?_)
                    obtain ⟨z59, rfl, Rt58, Ft58⟩ := pr56 _ _ rfl
                    have Ff60 := pm_Fr_tr Fs51 Ft58 (M := [(47, none), (48, none), (61, none), (62, none), (63, none)]) rfl
                    have jj61 := Ft58 40 0 0 rfl
                    have jj62 := Ft58 40 0 1 rfl
                    have jj63 := Ft58 40 0 2 rfl
                    have jj64 := Ft58 40 0 3 rfl
                    show G 180 [some (.inr (.inr (40, 0))), some (.inl aa), some (.inl ab), some (.inl ac), none, none] [.inr (.inl z59)] 122 t58
                    have jj65 := Ff60 40 0 0 rfl
                    have jj66 := Ff60 40 0 1 rfl
                    have jj67 := Ff60 40 0 2 rfl
                    have jj68 := Ff60 40 0 3 rfl
                    exact px_lret (st := []) hG dX11_spread_180 rfl rfl (fun aa_1 ab_1 ac_1 ee => by cases ee; exact ⟨_, rfl, Rt58, Ff60⟩)
                · refine px_aload_n hG dX11_spread_128 rfl ?_
                  refine px_iload_n hG dX11_spread_129 rfl ?_
                  refine px_iconst hG dX11_spread_130 ?_
                  refine px_isub hG dX11_spread_131 ?_
                  refine px_iload_n hG dX11_spread_132 rfl ?_
                  refine px_iconst hG dX11_spread_133 ?_
                  refine px_isub hG dX11_spread_134 ?_
                  refine jv2 hG dX11_spread_135 ct_X11_choose lk_X11_148 ⟨rfl, rfl⟩ (by decide) ⟨Nat.le_of_ble_eq_true rfl, Nat.le_of_ble_eq_true rfl, Nat.le_of_ble_eq_true rfl⟩ (Nat.le_of_ble_eq_true rfl) ⟨(ab - 1), (ac - 1), rfl, rfl, R0, ⟨by omega, J2⟩⟩ (fun r69 t70 pr69 => ?_)
                  obtain ⟨z71, rfl, rfl⟩ := pr69 _ _ rfl
                  show G 138 [some (.inr (.inr (40, 0))), some (.inl aa), some (.inl ab), some (.inl ac), none, none] [.inr (.inl z71)] 122 s0
                  refine px_iload_n hG dX11_spread_138 rfl ?_
                  refine px_iconst hG dX11_spread_139 ?_
                  refine px_isub hG dX11_spread_140 ?_
                  refine js1 hG dX11_spread_141 ct_X11_allOf lk_X11_251 ⟨Nat.le_of_ble_eq_true rfl, Nat.le_of_ble_eq_true rfl, Nat.le_of_ble_eq_true rfl⟩ (Nat.le_of_ble_eq_true rfl) ⟨(ac - 1), rfl, rfl, R0, by omega⟩ (fun r72 t73 pr72 => ?_)
                  obtain ⟨z74, rfl, rfl⟩ := pr72 _ rfl
                  show G 144 [some (.inr (.inr (40, 0))), some (.inl aa), some (.inl ab), some (.inl ac), none, none] [.inr (.inl z74), .inr (.inl z71)] 122 s0
                  refine px_lmul hG dX11_spread_144 ?_
                  refine px_iload_n hG dX11_spread_145 rfl ?_
                  refine px_iload_n hG dX11_spread_146 rfl ?_
                  refine px_isub hG dX11_spread_147 ?_
                  refine js1 hG dX11_spread_148 ct_X11_allOf lk_X11_251 ⟨Nat.le_of_ble_eq_true rfl, Nat.le_of_ble_eq_true rfl, Nat.le_of_ble_eq_true rfl⟩ (Nat.le_of_ble_eq_true rfl) ⟨(ab - ac), rfl, rfl, R0, by omega⟩ (fun r75 t76 pr75 => ?_)
                  obtain ⟨z77, rfl, rfl⟩ := pr75 _ rfl
                  show G 151 [some (.inr (.inr (40, 0))), some (.inl aa), some (.inl ab), some (.inl ac), none, none] [.inr (.inl z77), .inr (.inl (z71 * z74))] 122 s0
                  refine px_lmul hG dX11_spread_151 ?_
                  refine px_iload_n hG dX11_spread_152 rfl ?_
                  refine px_i2l hG dX11_spread_153 ⟨by omega, by omega⟩ ?_
                  refine px_lmul hG dX11_spread_154 ?_
                  exact px_lret (st := []) hG dX11_spread_155 rfl rfl (fun aa_1 ab_1 ac_1 ee => by cases ee; exact ⟨_, rfl, R0, pm_Fr_rf⟩)
              · refine px_lconst hG dX11_spread_121 ?_
                show G 122 [some (.inr (.inr (40, 0))), some (.inl aa), some (.inl ab), some (.inl ac), none, none] [.inr (.inl 0)] 122 s0
                exact px_lret (st := []) hG dX11_spread_122 rfl rfl (fun aa_1 ab_1 ac_1 ee => by cases ee; exact ⟨_, rfl, R0, pm_Fr_rf⟩)
            refine px_ic_ne hG dX11_spread_105 (tgt := 112) (by decide) ⟨by omega, by omega⟩ ⟨by omega, by omega⟩ (fun c12 => ?_) (fun c12 => ?_)
            · refine px_lconst hG dX11_spread_112 ?_
              show G 113 [some (.inr (.inr (40, 0))), some (.inl aa), some (.inl ab), some (.inl ac), none, none] [.inr (.inl 1), .inr (.inl ac)] 122 s0
              exact J113_14 1 (by omega)
            · refine px_lconst hG dX11_spread_108 ?_
              show G 109 [some (.inr (.inr (40, 0))), some (.inl aa), some (.inl ab), some (.inl ac), none, none] [.inr (.inl 0), .inr (.inl ac)] 122 s0
              refine px_goto hG dX11_spread_109 (tgt := 113) (by decide) ?_
              exact J113_14 0 (by omega)
          · refine px_iload_n hG dX11_spread_78 rfl ?_
            refine px_if_lt hG dX11_spread_79 (tgt := 88) (by decide) ⟨by omega, by omega⟩ (fun c78 => ?_) (fun c78 => ?_)
            · refine px_lconst hG dX11_spread_88 ?_
              show G 89 [some (.inr (.inr (40, 0))), some (.inl aa), some (.inl ab), some (.inl ac), none, none] [.inr (.inl 0)] 122 s0
              refine px_goto hG dX11_spread_89 (tgt := 100) (by decide) ?_
              exact px_lret (st := []) hG dX11_spread_100 rfl rfl (fun aa_1 ab_1 ac_1 ee => by cases ee; exact ⟨_, rfl, R0, pm_Fr_rf⟩)
            · refine px_iload_n hG dX11_spread_82 rfl ?_
              refine px_bipush hG dX11_spread_83 (by decide) ?_
              refine px_ic_le hG dX11_spread_85 (tgt := 92) (by decide) ⟨by omega, by omega⟩ ⟨by omega, by omega⟩ (fun c79 => ?_) (fun c79 => ?_)
              · refine px_aload_n hG dX11_spread_92 rfl ?_
                refine px_iload_n hG dX11_spread_93 rfl ?_
                refine px_iload_n hG dX11_spread_94 rfl ?_
                refine px_iconst hG dX11_spread_95 ?_
                refine px_iadd hG dX11_spread_96 ?_
                refine jv2 hG dX11_spread_97 ct_X11_withParts lk_X11_248 ⟨rfl, rfl⟩ (by decide) ⟨Nat.le_of_ble_eq_true rfl, Nat.le_of_ble_eq_true rfl, Nat.le_of_ble_eq_true rfl⟩ (Nat.le_of_ble_eq_true rfl) ⟨ab, (ac + 1), rfl, rfl, R0, ⟨by omega, J2⟩⟩ (fun r80 t82 pr80 => ?_)
                obtain ⟨z83, rfl, Rt82, Ft82⟩ := pr80 _ _ rfl
                have Ff84 := pm_Fr_mono Ft82 (M := [(47, none), (48, none), (61, none), (62, none), (63, none)]) rfl
                have jj85 := Ft82 40 0 0 rfl
                have jj86 := Ft82 40 0 1 rfl
                have jj87 := Ft82 40 0 2 rfl
                have jj88 := Ft82 40 0 3 rfl
                show G 100 [some (.inr (.inr (40, 0))), some (.inl aa), some (.inl ab), some (.inl ac), none, none] [.inr (.inl z83)] 122 t82
                have jj89 := Ff84 40 0 0 rfl
                have jj90 := Ff84 40 0 1 rfl
                have jj91 := Ff84 40 0 2 rfl
                have jj92 := Ff84 40 0 3 rfl
                exact px_lret (st := []) hG dX11_spread_100 rfl rfl (fun aa_1 ab_1 ac_1 ee => by cases ee; exact ⟨_, rfl, Rt82, Ff84⟩)
              · refine px_lconst hG dX11_spread_88 ?_
                show G 89 [some (.inr (.inr (40, 0))), some (.inl aa), some (.inl ab), some (.inl ac), none, none] [.inr (.inl 0)] 122 s0
                refine px_goto hG dX11_spread_89 (tgt := 100) (by decide) ?_
                exact px_lret (st := []) hG dX11_spread_100 rfl rfl (fun aa_1 ab_1 ac_1 ee => by cases ee; exact ⟨_, rfl, R0, pm_Fr_rf⟩)
        · refine px_aload_n hG dX11_spread_66 rfl ?_
          refine px_iload_n hG dX11_spread_67 rfl ?_
          refine px_iload_n hG dX11_spread_68 rfl ?_
          refine jv2 hG dX11_spread_69 ct_X11_withLucky lk_X11_245 ⟨rfl, rfl⟩ (by decide) ⟨Nat.le_of_ble_eq_true rfl, Nat.le_of_ble_eq_true rfl, Nat.le_of_ble_eq_true rfl⟩ (Nat.le_of_ble_eq_true rfl) ⟨ab, ac, rfl, rfl, R0, ⟨by omega, J2⟩⟩ (fun r93 t95 pr93 => ?_)
          obtain ⟨z96, rfl, Rt95, Ft95⟩ := pr93 _ _ rfl
          have Ff97 := pm_Fr_mono Ft95 (M := [(47, none), (48, none), (61, none), (62, none), (63, none)]) rfl
          have jj98 := Ft95 40 0 0 rfl
          have jj99 := Ft95 40 0 1 rfl
          have jj100 := Ft95 40 0 2 rfl
          have jj101 := Ft95 40 0 3 rfl
          show G 72 [some (.inr (.inr (40, 0))), some (.inl aa), some (.inl ab), some (.inl ac), none, none] [.inr (.inl z96)] 122 t95
          have jj102 := Ff97 40 0 0 rfl
          have jj103 := Ff97 40 0 1 rfl
          have jj104 := Ff97 40 0 2 rfl
          have jj105 := Ff97 40 0 3 rfl
          exact px_lret (st := []) hG dX11_spread_72 rfl rfl (fun aa_1 ab_1 ac_1 ee => by cases ee; exact ⟨_, rfl, Rt95, Ff97⟩)
      · refine px_iload_n hG dX11_spread_32 rfl ?_
        refine px_if_lt hG dX11_spread_33 (tgt := 42) (by decide) ⟨by omega, by omega⟩ (fun c106 => ?_) (fun c106 => ?_)
        · refine px_lconst hG dX11_spread_42 ?_
          show G 43 [some (.inr (.inr (40, 0))), some (.inl aa), some (.inl ab), some (.inl ac), none, none] [.inr (.inl 0)] 122 s0
          refine px_goto hG dX11_spread_43 (tgt := 60) (by decide) ?_
          exact px_lret (st := []) hG dX11_spread_60 rfl rfl (fun aa_1 ab_1 ac_1 ee => by cases ee; exact ⟨_, rfl, R0, pm_Fr_rf⟩)
        · refine px_iload_n hG dX11_spread_36 rfl ?_
          refine px_bipush hG dX11_spread_37 (by decide) ?_
          refine px_ic_le hG dX11_spread_39 (tgt := 46) (by decide) ⟨by omega, by omega⟩ ⟨by omega, by omega⟩ (fun c107 => ?_) (fun c107 => ?_)
          · refine px_aload_n hG dX11_spread_46 rfl ?_
            refine px_iload_n hG dX11_spread_47 rfl ?_
            refine px_iload_n hG dX11_spread_48 rfl ?_
            refine px_iload_n hG dX11_spread_49 rfl ?_
            refine px_iconst hG dX11_spread_50 ?_
            refine px_iadd hG dX11_spread_51 ?_
            refine px_imul hG dX11_spread_52 ?_
            have M1 := pm_mul_bd (a := ab) (b := (ab + 1)) (A := 10) (B := 11) (by omega) (by omega)
            have M2 := Int.mul_pos (a := ab) (b := (ab + 1)) (by omega) (by omega)
            refine px_iconst hG dX11_spread_53 ?_
            refine px_idiv hG dX11_spread_54 ⟨by omega, by omega⟩ ⟨by omega, by omega⟩ ?_
            generalize hx108 : (ab * (ab + 1)) / 2 = x108
            refine px_iload_n hG dX11_spread_55 rfl ?_
            refine px_isub hG dX11_spread_56 ?_
            refine jv2 hG dX11_spread_57 ct_X11_withSum lk_X11_242 ⟨rfl, rfl⟩ (by decide) ⟨Nat.le_of_ble_eq_true rfl, Nat.le_of_ble_eq_true rfl, Nat.le_of_ble_eq_true rfl⟩ (Nat.le_of_ble_eq_true rfl) ⟨ab, (x108 - ac), rfl, rfl, R0, ⟨by omega, J2⟩⟩ (fun r109 t111 pr109 => ?_)
            obtain ⟨z112, rfl, Rt111, Ft111⟩ := pr109 _ _ rfl
            have Ff113 := pm_Fr_mono Ft111 (M := [(47, none), (48, none), (61, none), (62, none), (63, none)]) rfl
            have jj114 := Ft111 40 0 0 rfl
            have jj115 := Ft111 40 0 1 rfl
            have jj116 := Ft111 40 0 2 rfl
            have jj117 := Ft111 40 0 3 rfl
            show G 60 [some (.inr (.inr (40, 0))), some (.inl aa), some (.inl ab), some (.inl ac), none, none] [.inr (.inl z112)] 122 t111
            have jj118 := Ff113 40 0 0 rfl
            have jj119 := Ff113 40 0 1 rfl
            have jj120 := Ff113 40 0 2 rfl
            have jj121 := Ff113 40 0 3 rfl
            exact px_lret (st := []) hG dX11_spread_60 rfl rfl (fun aa_1 ab_1 ac_1 ee => by cases ee; exact ⟨_, rfl, Rt111, Ff113⟩)
          · refine px_lconst hG dX11_spread_42 ?_
            show G 43 [some (.inr (.inr (40, 0))), some (.inl aa), some (.inl ab), some (.inl ac), none, none] [.inr (.inl 0)] 122 s0
            refine px_goto hG dX11_spread_43 (tgt := 60) (by decide) ?_
            exact px_lret (st := []) hG dX11_spread_60 rfl rfl (fun aa_1 ab_1 ac_1 ee => by cases ee; exact ⟨_, rfl, R0, pm_Fr_rf⟩)
    · refine px_ldc2 hG dX11_spread_24 cn_X11_162 ?_
      show G 27 [some (.inr (.inr (40, 0))), some (.inl aa), some (.inl ab), some (.inl ac), none, none] [.inr (.inl (-1))] 122 s0
      exact px_lret (st := []) hG dX11_spread_27 rfl rfl (fun aa_1 ab_1 ac_1 ee => by cases ee; exact ⟨_, rfl, R0, pm_Fr_rf⟩))
