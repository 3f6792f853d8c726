/-! ===== the public methods ===== -/
def pre_X10_isRowSize (as : List pm_V) (n : Nat) (σ : pm_H) : Prop := ∃ aa : Int, as = [.inr (.inr (0, 0)), .inl aa] ∧ n = 122 ∧ pm_Rng σ ∧ (pm_in aa ∧ (σ 3 0 3 ≤ σ 3 0 1 ∧ (σ 3 0 0 = 2 → 0 ≤ σ 3 0 2 ∧ σ 3 0 2 ≤ 9)))
def po_X10_isRowSize (as : List pm_V) (_ : Nat) (σ : pm_H) (r : Option pm_V) (τ : pm_H) : Prop := ∀ aa : Int, as = [.inr (.inr (0, 0)), .inl aa] → ∃ v : Int, r = some (.inl v) ∧ σ = τ ∧ ((v = 0 ∨ v = 1) ∧ (v = 1 → 0 ≤ aa ∧ aa ≤ σ 3 0 1))
set_option maxRecDepth 20000 in
set_option maxHeartbeats 4000000 in
theorem ct_X10_isRowSize : pm_Ct yX10_isRowSize cX10_isRowSize 2 (some .boolean) 0 0 pre_X10_isRowSize po_X10_isRowSize := pm_sound (ini := false) (by decide +kernel) pk_X10_isRowSize (fun h => absurd h (by decide)) (by
  rintro as n s0 ⟨aa, rfl, rfl, R0, hpre⟩
  refine ⟨by decide, Nat.le_of_ble_eq_true rfl, fun G hG => ?_⟩
  have hG : pm_Rules (RX10, 0, 122, cX10_isRowSize, -1, (fun _ => 0), false, (some .boolean), po_X10_isRowSize [.inr (.inr (0, 0)), .inl aa] 122 s0) G := hG
  show G 0 [some (.inr (.inr (0, 0))), some (.inl aa)] [] 122 s0
  have B0 := pb_3_0 R0
  have B1 := pb_3_1 R0
  have B2 := pb_3_2 R0
  have B3 := pb_3_3 R0
  refine px_iload_n hG dX10_isRowSize_0 rfl ?_
  refine px_if_lt hG dX10_isRowSize_1 (tgt := 19) (by decide) ⟨by omega, by omega⟩ (fun c1 => ?_) (fun c1 => ?_)
  · refine px_iconst hG dX10_isRowSize_19 ?_
    exact px_zret (st := []) hG dX10_isRowSize_20 rfl (by omega) rfl (fun aa_1 ee => by cases ee; exact ⟨_, rfl, rfl, by omega⟩)
  · refine px_iload_n hG dX10_isRowSize_4 rfl ?_
    refine px_aload_n hG dX10_isRowSize_5 rfl ?_
    refine gr_0_0 hG dX10_isRowSize_6 fl_X10_13 R0 ?_
    refine gi_3_1 hG dX10_isRowSize_9 fl_X10_93 R0 (fun x2 ex2 lx2 ux2 => ?_)
    refine px_ic_gt hG dX10_isRowSize_12 (tgt := 19) (by decide) ⟨by omega, by omega⟩ ⟨by omega, by omega⟩ (fun c3 => ?_) (fun c3 => ?_)
    · refine px_iconst hG dX10_isRowSize_19 ?_
      exact px_zret (st := []) hG dX10_isRowSize_20 rfl (by omega) rfl (fun aa_1 ee => by cases ee; exact ⟨_, rfl, rfl, by omega⟩)
    · refine px_iconst hG dX10_isRowSize_15 ?_
      refine px_goto hG dX10_isRowSize_16 (tgt := 20) (by decide) ?_
      exact px_zret (st := []) hG dX10_isRowSize_20 rfl (by omega) rfl (fun aa_1 ee => by cases ee; exact ⟨_, rfl, rfl, by omega⟩))
def pre_X10_isPlainGood (as : List pm_V) (n : Nat) (σ : pm_H) : Prop := as = [.inr (.inr (0, 0))] ∧ n = 122 ∧ pm_Rng σ ∧ ((σ 3 0 3 ≤ σ 3 0 1 ∧ (σ 3 0 0 = 2 → 0 ≤ σ 3 0 2 ∧ σ 3 0 2 ≤ 9)))
def po_X10_isPlainGood (as : List pm_V) (_ : Nat) (σ : pm_H) (r : Option pm_V) (τ : pm_H) : Prop := as = [.inr (.inr (0, 0))] → ∃ v : Int, r = some (.inl v) ∧ σ = τ ∧ ((v = 0 ∨ v = 1) ∧ (v = 1 → σ 3 0 0 = 0))
set_option maxRecDepth 20000 in
set_option maxHeartbeats 4000000 in
theorem ct_X10_isPlainGood : pm_Ct yX10_isPlainGood cX10_isPlainGood 1 (some .boolean) 3 0 pre_X10_isPlainGood po_X10_isPlainGood := pm_sound (ini := false) (by decide +kernel) pk_X10_isPlainGood (fun h => absurd h (by decide)) (by
  rintro as n s0 ⟨rfl, rfl, R0, hpre⟩
  refine ⟨by decide, Nat.le_of_ble_eq_true rfl, fun G hG => ?_⟩
  have hG : pm_Rules (RX10, 3, 122, cX10_isPlainGood, -1, (fun _ => 0), false, (some .boolean), po_X10_isPlainGood [.inr (.inr (0, 0))] 122 s0) G := hG
  show G 0 [some (.inr (.inr (0, 0)))] [] 122 s0
  have B0 := pb_3_0 R0
  have B1 := pb_3_1 R0
  have B2 := pb_3_2 R0
  have B3 := pb_3_3 R0
  refine px_aload_n hG dX10_isPlainGood_0 rfl ?_
  refine gr_0_0 hG dX10_isPlainGood_1 fl_X10_13 R0 ?_
  refine jv0 hG dX10_isPlainGood_4 ct_X5_isPlain lk_X10_222 ⟨rfl, rfl⟩ (by decide) ⟨Nat.le_of_ble_eq_true rfl, Nat.le_of_ble_eq_true rfl, Nat.le_of_ble_eq_true rfl⟩ (Nat.le_of_ble_eq_true rfl) ⟨rfl, rfl, R0⟩ (fun r1 t2 pr1 => ?_)
  obtain ⟨x3, rfl, rfl, br1⟩ := pr1 rfl
  show G 7 [some (.inr (.inr (0, 0)))] [.inl x3] 122 s0
  refine px_if_eq hG dX10_isPlainGood_7 (tgt := 24) (by decide) ⟨by omega, by omega⟩ (fun c4 => ?_) (fun c4 => ?_)
  · refine px_iconst hG dX10_isPlainGood_24 ?_
    exact px_zret (st := []) hG dX10_isPlainGood_25 rfl (by omega) rfl (fun _ => by exact ⟨_, rfl, rfl, by omega⟩)
  · refine px_aload_n hG dX10_isPlainGood_10 rfl ?_
    refine gr_0_0 hG dX10_isPlainGood_11 fl_X10_13 R0 ?_
    refine jv0 hG dX10_isPlainGood_14 ct_X5_allIn lk_X10_152 ⟨rfl, rfl⟩ (by decide) ⟨Nat.le_of_ble_eq_true rfl, Nat.le_of_ble_eq_true rfl, Nat.le_of_ble_eq_true rfl⟩ (Nat.le_of_ble_eq_true rfl) ⟨rfl, rfl, R0⟩ (fun r5 t6 pr5 => ?_)
    obtain ⟨x7, rfl, rfl, br5⟩ := pr5 rfl
    show G 17 [some (.inr (.inr (0, 0)))] [.inl x7] 122 s0
    refine px_if_eq hG dX10_isPlainGood_17 (tgt := 24) (by decide) ⟨by omega, by omega⟩ (fun c8 => ?_) (fun c8 => ?_)
    · refine px_iconst hG dX10_isPlainGood_24 ?_
      exact px_zret (st := []) hG dX10_isPlainGood_25 rfl (by omega) rfl (fun _ => by exact ⟨_, rfl, rfl, by omega⟩)
    · refine px_iconst hG dX10_isPlainGood_20 ?_
      refine px_goto hG dX10_isPlainGood_21 (tgt := 25) (by decide) ?_
      exact px_zret (st := []) hG dX10_isPlainGood_25 rfl (by omega) rfl (fun _ => by exact ⟨_, rfl, rfl, by omega⟩))
def pre_X10_hasTree (as : List pm_V) (n : Nat) (σ : pm_H) : Prop := as = [.inr (.inr (0, 0))] ∧ n = 122 ∧ pm_Rng σ ∧ ((σ 3 0 3 ≤ σ 3 0 1 ∧ (σ 3 0 0 = 2 → 0 ≤ σ 3 0 2 ∧ σ 3 0 2 ≤ 9)))
def po_X10_hasTree (as : List pm_V) (_ : Nat) (σ : pm_H) (r : Option pm_V) (τ : pm_H) : Prop := as = [.inr (.inr (0, 0))] → ∃ v : Int, r = some (.inl v) ∧ σ = τ ∧ ((v = 0 ∨ v = 1) ∧ (v = 1 → σ 3 0 3 = σ 3 0 1 ∧ σ 3 0 0 = 0))
set_option maxRecDepth 20000 in
set_option maxHeartbeats 4000000 in
theorem ct_X10_hasTree : pm_Ct yX10_hasTree cX10_hasTree 1 (some .boolean) 4 0 pre_X10_hasTree po_X10_hasTree := pm_sound (ini := false) (by decide +kernel) pk_X10_hasTree (fun h => absurd h (by decide)) (by
  rintro as n s0 ⟨rfl, rfl, R0, hpre⟩
  refine ⟨by decide, Nat.le_of_ble_eq_true rfl, fun G hG => ?_⟩
  have hG : pm_Rules (RX10, 4, 122, cX10_hasTree, -1, (fun _ => 0), false, (some .boolean), po_X10_hasTree [.inr (.inr (0, 0))] 122 s0) G := hG
  show G 0 [some (.inr (.inr (0, 0)))] [] 122 s0
  have B0 := pb_3_0 R0
  have B1 := pb_3_1 R0
  have B2 := pb_3_2 R0
  have B3 := pb_3_3 R0
  refine px_aload_n hG dX10_hasTree_0 rfl ?_
  refine gr_0_0 hG dX10_hasTree_1 fl_X10_13 R0 ?_
  refine gi_3_3 hG dX10_hasTree_4 fl_X10_89 R0 (fun x1 ex1 lx1 ux1 => ?_)
  refine px_aload_n hG dX10_hasTree_7 rfl ?_
  refine gr_0_0 hG dX10_hasTree_8 fl_X10_13 R0 ?_
  refine gi_3_1 hG dX10_hasTree_11 fl_X10_93 R0 (fun x2 ex2 lx2 ux2 => ?_)
  refine px_ic_ne hG dX10_hasTree_14 (tgt := 28) (by decide) ⟨by omega, by omega⟩ ⟨by omega, by omega⟩ (fun c3 => ?_) (fun c3 => ?_)
  · refine px_iconst hG dX10_hasTree_28 ?_
    exact px_zret (st := []) hG dX10_hasTree_29 rfl (by omega) rfl (fun _ => by exact ⟨_, rfl, rfl, by omega⟩)
  · refine px_aload_n hG dX10_hasTree_17 rfl ?_
    refine jv0 hG dX10_hasTree_18 ct_X10_isPlainGood lk_X10_172 ⟨rfl, rfl⟩ (by decide) ⟨Nat.le_of_ble_eq_true rfl, Nat.le_of_ble_eq_true rfl, Nat.le_of_ble_eq_true rfl⟩ (Nat.le_of_ble_eq_true rfl) ⟨rfl, rfl, R0, by omega⟩ (fun r4 t5 pr4 => ?_)
    obtain ⟨x6, rfl, rfl, br4⟩ := pr4 rfl
    show G 21 [some (.inr (.inr (0, 0)))] [.inl x6] 122 s0
    refine px_if_eq hG dX10_hasTree_21 (tgt := 28) (by decide) ⟨by omega, by omega⟩ (fun c7 => ?_) (fun c7 => ?_)
    · refine px_iconst hG dX10_hasTree_28 ?_
      exact px_zret (st := []) hG dX10_hasTree_29 rfl (by omega) rfl (fun _ => by exact ⟨_, rfl, rfl, by omega⟩)
    · refine px_iconst hG dX10_hasTree_24 ?_
      refine px_goto hG dX10_hasTree_25 (tgt := 29) (by decide) ?_
      exact px_zret (st := []) hG dX10_hasTree_29 rfl (by omega) rfl (fun _ => by exact ⟨_, rfl, rfl, by omega⟩))
def pre_X10_road (as : List pm_V) (n : Nat) (σ : pm_H) : Prop := ∃ aa ab ac : Int, as = [.inr (.inr (0, 0)), .inl aa, .inl ab, .inl ac] ∧ n = 122 ∧ pm_Rng σ ∧ (pm_in aa ∧ pm_in ab ∧ pm_in ac ∧ (σ 3 0 3 ≤ σ 3 0 1 ∧ (σ 3 0 0 = 2 → 0 ≤ σ 3 0 2 ∧ σ 3 0 2 ≤ 9)))
def po_X10_road (as : List pm_V) (_ : Nat) (σ : pm_H) (r : Option pm_V) (τ : pm_H) : Prop := ∀ aa ab ac : Int, as = [.inr (.inr (0, 0)), .inl aa, .inl ab, .inl ac] → ∃ v : Int, r = some (.inl v) ∧ pm_Rng τ ∧ pm_Fr [(3, some 0), (3, some 1), (3, some 2), (3, some 3), (3, some 4), (6, none), (7, none)] σ τ ∧ ((τ 3 0 3 ≤ τ 3 0 1 ∧ (τ 3 0 0 = 2 → 0 ≤ τ 3 0 2 ∧ τ 3 0 2 ≤ 9)))
set_option maxRecDepth 20000 in
set_option maxHeartbeats 4000000 in
theorem ct_X10_road : pm_Ct yX10_road cX10_road 4 (some .int) 5 0 pre_X10_road po_X10_road := pm_sound (ini := false) (by decide +kernel) pk_X10_road (fun h => absurd h (by decide)) (by
  rintro as n s0 ⟨aa, ab, ac, rfl, rfl, R0, hpre⟩
  refine ⟨by decide, Nat.le_of_ble_eq_true rfl, fun G hG => ?_⟩
  have hG : pm_Rules (RX10, 5, 122, cX10_road, -1, (fun _ => 0), false, (some .int), po_X10_road [.inr (.inr (0, 0)), .inl aa, .inl ab, .inl ac] 122 s0) G := hG
  show G 0 [some (.inr (.inr (0, 0))), some (.inl aa), some (.inl ab), some (.inl ac)] [] 122 s0
  have B0 := pb_3_0 R0
  have B1 := pb_3_1 R0
  have B2 := pb_3_2 R0
  have B3 := pb_3_3 R0
  refine px_iload_n hG dX10_road_0 rfl ?_
  refine px_if_lt hG dX10_road_1 (tgt := 20) (by decide) ⟨by omega, by omega⟩ (fun c1 => ?_) (fun c1 => ?_)
  · refine px_iconst hG dX10_road_20 ?_
    exact px_iret (st := []) hG dX10_road_21 rfl rfl (fun aa_1 ab_1 ac_1 ee => by cases ee; exact ⟨_, rfl, R0, pm_Fr_rf, by omega⟩)
  · refine px_iload_n hG dX10_road_4 rfl ?_
    refine px_iconst hG dX10_road_5 ?_
    refine px_ic_gt hG dX10_road_6 (tgt := 20) (by decide) ⟨by omega, by omega⟩ ⟨by omega, by omega⟩ (fun c2 => ?_) (fun c2 => ?_)
    · refine px_iconst hG dX10_road_20 ?_
      exact px_iret (st := []) hG dX10_road_21 rfl rfl (fun aa_1 ab_1 ac_1 ee => by cases ee; exact ⟨_, rfl, R0, pm_Fr_rf, by omega⟩)
    · refine px_iload_n hG dX10_road_9 rfl ?_
      refine px_iconst hG dX10_road_10 ?_
      refine px_ic_lt hG dX10_road_11 (tgt := 20) (by decide) ⟨by omega, by omega⟩ ⟨by omega, by omega⟩ (fun c3 => ?_) (fun c3 => ?_)
      · refine px_iconst hG dX10_road_20 ?_
        exact px_iret (st := []) hG dX10_road_21 rfl rfl (fun aa_1 ab_1 ac_1 ee => by cases ee; exact ⟨_, rfl, R0, pm_Fr_rf, by omega⟩)
      · refine px_iload_n hG dX10_road_14 rfl ?_
        refine px_bipush hG dX10_road_15 (by decide) ?_
        refine px_ic_le hG dX10_road_17 (tgt := 22) (by decide) ⟨by omega, by omega⟩ ⟨by omega, by omega⟩ (fun c4 => ?_) (fun c4 => ?_)
        · refine px_iload_n hG dX10_road_22 rfl ?_
          refine px_iconst hG dX10_road_23 ?_
          refine px_ic_ne hG dX10_road_24 (tgt := 39) (by decide) ⟨by omega, by omega⟩ ⟨by omega, by omega⟩ (fun c5 => ?_) (fun c5 => ?_)
          · refine px_aload_n hG dX10_road_39 rfl ?_
            refine gr_0_0 hG dX10_road_40 fl_X10_13 R0 ?_
            refine px_iload_n hG dX10_road_43 rfl ?_
            refine px_iload_n hG dX10_road_44 rfl ?_
            refine px_iload_n hG dX10_road_45 rfl ?_
            refine jv3 hG dX10_road_46 ct_X5_lay lk_X10_81 ⟨rfl, rfl⟩ (by decide) ⟨Nat.le_of_ble_eq_true rfl, Nat.le_of_ble_eq_true rfl, Nat.le_of_ble_eq_true rfl⟩ (Nat.le_of_ble_eq_true rfl) ⟨aa, ab, ac, rfl, rfl, R0, by omega⟩ (fun r6 t8 pr6 => ?_)
            obtain ⟨rfl, Rt8, Ft8, br6⟩ := pr6 _ _ _ rfl
            have Ff10 := pm_Fr_mono Ft8 (M := [(3, some 0), (3, some 1), (3, some 2), (3, some 3), (3, some 4), (6, none), (7, none)]) rfl
            show G 49 [some (.inr (.inr (0, 0))), some (.inl aa), some (.inl ab), some (.inl ac)] [] 122 t8
            refine px_iconst hG dX10_road_49 ?_
            exact px_iret (st := []) hG dX10_road_50 rfl rfl (fun aa_1 ab_1 ac_1 ee => by cases ee; exact ⟨_, rfl, Rt8, Ff10, by omega⟩)
          · refine px_iload_n hG dX10_road_27 rfl ?_
            refine px_if_lt hG dX10_road_28 (tgt := 37) (by decide) ⟨by omega, by omega⟩ (fun c11 => ?_) (fun c11 => ?_)
            · refine px_iconst hG dX10_road_37 ?_
              exact px_iret (st := []) hG dX10_road_38 rfl rfl (fun aa_1 ab_1 ac_1 ee => by cases ee; exact ⟨_, rfl, R0, pm_Fr_rf, by omega⟩)
            · refine px_iload_n hG dX10_road_31 rfl ?_
              refine px_bipush hG dX10_road_32 (by decide) ?_
              refine px_ic_le hG dX10_road_34 (tgt := 39) (by decide) ⟨by omega, by omega⟩ ⟨by omega, by omega⟩ (fun c12 => ?_) (fun c12 => ?_)
              · refine px_aload_n hG dX10_road_39 rfl ?_
                refine gr_0_0 hG dX10_road_40 fl_X10_13 R0 ?_
                refine px_iload_n hG dX10_road_43 rfl ?_
                refine px_iload_n hG dX10_road_44 rfl ?_
                refine px_iload_n hG dX10_road_45 rfl ?_
                refine jv3 hG dX10_road_46 ct_X5_lay lk_X10_81 ⟨rfl, rfl⟩ (by decide) ⟨Nat.le_of_ble_eq_true rfl, Nat.le_of_ble_eq_true rfl, Nat.le_of_ble_eq_true rfl⟩ (Nat.le_of_ble_eq_true rfl) ⟨aa, ab, ac, rfl, rfl, R0, by omega⟩ (fun r13 t15 pr13 => ?_)
                obtain ⟨rfl, Rt15, Ft15, br13⟩ := pr13 _ _ _ rfl
                have Ff17 := pm_Fr_mono Ft15 (M := [(3, some 0), (3, some 1), (3, some 2), (3, some 3), (3, some 4), (6, none), (7, none)]) rfl
                show G 49 [some (.inr (.inr (0, 0))), some (.inl aa), some (.inl ab), some (.inl ac)] [] 122 t15
                refine px_iconst hG dX10_road_49 ?_
                exact px_iret (st := []) hG dX10_road_50 rfl rfl (fun aa_1 ab_1 ac_1 ee => by cases ee; exact ⟨_, rfl, Rt15, Ff17, by omega⟩)
              · refine px_iconst hG dX10_road_37 ?_
                exact px_iret (st := []) hG dX10_road_38 rfl rfl (fun aa_1 ab_1 ac_1 ee => by cases ee; exact ⟨_, rfl, R0, pm_Fr_rf, by omega⟩)
        · refine px_iconst hG dX10_road_20 ?_
          exact px_iret (st := []) hG dX10_road_21 rfl rfl (fun aa_1 ab_1 ac_1 ee => by cases ee; exact ⟨_, rfl, R0, pm_Fr_rf, by omega⟩))
def pre_X10_car (as : List pm_V) (n : Nat) (σ : pm_H) : Prop := ∃ aa : Int, as = [.inr (.inr (0, 0)), .inl aa] ∧ n = 122 ∧ pm_Rng σ ∧ (pm_in aa ∧ (σ 3 0 3 ≤ σ 3 0 1 ∧ (σ 3 0 0 = 2 → 0 ≤ σ 3 0 2 ∧ σ 3 0 2 ≤ 9)))
def po_X10_car (as : List pm_V) (_ : Nat) (σ : pm_H) (r : Option pm_V) (τ : pm_H) : Prop := ∀ aa : Int, as = [.inr (.inr (0, 0)), .inl aa] → ∃ v : Int, r = some (.inl v) ∧ pm_Rng τ ∧ pm_Fr [(3, some 3), (3, some 4), (4, none), (5, none), (6, none), (7, none)] σ τ ∧ ((τ 3 0 3 ≤ τ 3 0 1 ∧ (τ 3 0 0 = 2 → 0 ≤ τ 3 0 2 ∧ τ 3 0 2 ≤ 9)))
set_option maxRecDepth 20000 in
set_option maxHeartbeats 4000000 in
theorem ct_X10_car : pm_Ct yX10_car cX10_car 2 (some .int) 3 0 pre_X10_car po_X10_car := pm_sound (ini := false) (by decide +kernel) pk_X10_car (fun h => absurd h (by decide)) (by
  rintro as n s0 ⟨aa, rfl, rfl, R0, hpre⟩
  refine ⟨by decide, Nat.le_of_ble_eq_true rfl, fun G hG => ?_⟩
  have hG : pm_Rules (RX10, 3, 122, cX10_car, -1, (fun _ => 0), false, (some .int), po_X10_car [.inr (.inr (0, 0)), .inl aa] 122 s0) G := hG
  show G 0 [some (.inr (.inr (0, 0))), some (.inl aa)] [] 122 s0
  have B0 := pb_3_0 R0
  have B1 := pb_3_1 R0
  have B2 := pb_3_2 R0
  have B3 := pb_3_3 R0
  refine px_aload_n hG dX10_car_0 rfl ?_
  refine gr_0_0 hG dX10_car_1 fl_X10_13 R0 ?_
  refine px_iload_n hG dX10_car_4 rfl ?_
  refine jv1 hG dX10_car_5 ct_X5_hasPlace lk_X10_85 ⟨rfl, rfl⟩ (by decide) ⟨Nat.le_of_ble_eq_true rfl, Nat.le_of_ble_eq_true rfl, Nat.le_of_ble_eq_true rfl⟩ (Nat.le_of_ble_eq_true rfl) ⟨aa, rfl, rfl, R0, by omega⟩ (fun r1 t2 pr1 => ?_)
  obtain ⟨x3, rfl, rfl, br1⟩ := pr1 _ rfl
  show G 8 [some (.inr (.inr (0, 0))), some (.inl aa)] [.inl x3] 122 s0
  refine px_if_ne hG dX10_car_8 (tgt := 13) (by decide) ⟨by omega, by omega⟩ (fun c4 => ?_) (fun c4 => ?_)
  · refine px_aload_n hG dX10_car_13 rfl ?_
    refine gr_0_0 hG dX10_car_14 fl_X10_13 R0 ?_
    refine gi_3_3 hG dX10_car_17 fl_X10_89 R0 (fun x5 ex5 lx5 ux5 => ?_)
    refine px_aload_n hG dX10_car_20 rfl ?_
    refine gr_0_0 hG dX10_car_21 fl_X10_13 R0 ?_
    refine gi_3_1 hG dX10_car_24 fl_X10_93 R0 (fun x6 ex6 lx6 ux6 => ?_)
    refine px_ic_lt hG dX10_car_27 (tgt := 33) (by decide) ⟨by omega, by omega⟩ ⟨by omega, by omega⟩ (fun c7 => ?_) (fun c7 => ?_)
    · refine px_aload_n hG dX10_car_33 rfl ?_
      refine gr_0_0 hG dX10_car_34 fl_X10_13 R0 ?_
      refine px_iload_n hG dX10_car_37 rfl ?_
      refine jv1 hG dX10_car_38 ct_X5_add lk_X10_96 ⟨rfl, rfl⟩ (by decide) ⟨Nat.le_of_ble_eq_true rfl, Nat.le_of_ble_eq_true rfl, Nat.le_of_ble_eq_true rfl⟩ (Nat.le_of_ble_eq_true rfl) ⟨aa, rfl, rfl, R0, by omega⟩ (fun r8 t10 pr8 => ?_)
      obtain ⟨rfl, Rt10, Ft10, br8⟩ := pr8 _ rfl
      have Ff12 := pm_Fr_mono Ft10 (M := [(3, some 3), (3, some 4), (4, none), (5, none), (6, none), (7, none)]) rfl
      have jj13 := Ft10 3 0 0 rfl
      have jj14 := Ft10 3 0 1 rfl
      have jj15 := Ft10 3 0 2 rfl
      have k16 : t10 3 0 1 = x6 := (Ft10 3 0 1 rfl).trans ex6
      show G 41 [some (.inr (.inr (0, 0))), some (.inl aa)] [] 122 t10
      refine px_aload_n hG dX10_car_41 rfl ?_
      refine gr_0_0 hG dX10_car_42 fl_X10_13 Rt10 ?_
      refine jv0 hG dX10_car_45 ct_X5_settle lk_X10_100 ⟨rfl, rfl⟩ (by decide) ⟨Nat.le_of_ble_eq_true rfl, Nat.le_of_ble_eq_true rfl, Nat.le_of_ble_eq_true rfl⟩ (Nat.le_of_ble_eq_true rfl) ⟨rfl, rfl, Rt10, by omega⟩ (fun r17 t19 pr17 => ?_)
      obtain ⟨rfl, Rt19, Ft19⟩ := pr17 rfl
      have Ff21 := pm_Fr_tr Ff12 Ft19 (M := [(3, some 3), (3, some 4), (4, none), (5, none), (6, none), (7, none)]) rfl
      have jj22 := Ft19 3 0 0 rfl
      have jj23 := Ft19 3 0 1 rfl
      have jj24 := Ft19 3 0 2 rfl
      have jj25 := Ft19 3 0 3 rfl
      have k26 : t19 3 0 1 = x6 := (Ft19 3 0 1 rfl).trans k16
      show G 48 [some (.inr (.inr (0, 0))), some (.inl aa)] [] 122 t19
      refine px_aload_n hG dX10_car_48 rfl ?_
      refine gr_0_0 hG dX10_car_49 fl_X10_13 Rt19 ?_
      refine gi_3_3 hG dX10_car_52 fl_X10_89 Rt19 (fun x27 ex27 lx27 ux27 => ?_)
      have jj28 := Ff21 3 0 0 rfl
      have jj29 := Ff21 3 0 1 rfl
      have jj30 := Ff21 3 0 2 rfl
      exact px_iret (st := []) hG dX10_car_55 rfl rfl (fun aa_1 ee => by cases ee; exact ⟨_, rfl, Rt19, Ff21, by omega⟩)
    · refine px_bipush hG dX10_car_30 (by decide) ?_
      exact px_iret (st := []) hG dX10_car_32 rfl rfl (fun aa_1 ee => by cases ee; exact ⟨_, rfl, R0, pm_Fr_rf, by omega⟩)
  · refine px_iconst hG dX10_car_11 ?_
    exact px_iret (st := []) hG dX10_car_12 rfl rfl (fun aa_1 ee => by cases ee; exact ⟨_, rfl, R0, pm_Fr_rf, by omega⟩))
def pre_X10_wish (as : List pm_V) (n : Nat) (σ : pm_H) : Prop := ∃ aa ab : Int, as = [.inr (.inr (0, 0)), .inl aa, .inl ab] ∧ n = 122 ∧ pm_Rng σ ∧ (pm_in aa ∧ pm_in ab ∧ (σ 3 0 3 ≤ σ 3 0 1 ∧ (σ 3 0 0 = 2 → 0 ≤ σ 3 0 2 ∧ σ 3 0 2 ≤ 9)))
def po_X10_wish (as : List pm_V) (_ : Nat) (σ : pm_H) (r : Option pm_V) (τ : pm_H) : Prop := ∀ aa ab : Int, as = [.inr (.inr (0, 0)), .inl aa, .inl ab] → ∃ v : Int, r = some (.inl v) ∧ pm_Rng τ ∧ pm_Fr [(3, some 4), (4, none), (6, none), (7, none)] σ τ ∧ ((τ 3 0 3 ≤ τ 3 0 1 ∧ (τ 3 0 0 = 2 → 0 ≤ τ 3 0 2 ∧ τ 3 0 2 ≤ 9)))
set_option maxRecDepth 20000 in
set_option maxHeartbeats 4000000 in
theorem ct_X10_wish : pm_Ct yX10_wish cX10_wish 4 (some .int) 3 0 pre_X10_wish po_X10_wish := pm_sound (ini := false) (by decide +kernel) pk_X10_wish (fun h => absurd h (by decide)) (by
  rintro as n s0 ⟨aa, ab, rfl, rfl, R0, hpre⟩
  refine ⟨by decide, Nat.le_of_ble_eq_true rfl, fun G hG => ?_⟩
  have hG : pm_Rules (RX10, 3, 122, cX10_wish, -1, (fun _ => 0), false, (some .int), po_X10_wish [.inr (.inr (0, 0)), .inl aa, .inl ab] 122 s0) G := hG
  show G 0 [some (.inr (.inr (0, 0))), some (.inl aa), some (.inl ab), none] [] 122 s0
  have B0 := pb_3_0 R0
  have B1 := pb_3_1 R0
  have B2 := pb_3_2 R0
  have B3 := pb_3_3 R0
  refine px_aload_n hG dX10_wish_0 rfl ?_
  refine gr_0_0 hG dX10_wish_1 fl_X10_13 R0 ?_
  refine px_iload_n hG dX10_wish_4 rfl ?_
  refine jv1 hG dX10_wish_5 ct_X5_hasCar lk_X10_103 ⟨rfl, rfl⟩ (by decide) ⟨Nat.le_of_ble_eq_true rfl, Nat.le_of_ble_eq_true rfl, Nat.le_of_ble_eq_true rfl⟩ (Nat.le_of_ble_eq_true rfl) ⟨aa, rfl, rfl, R0, by omega⟩ (fun r1 t2 pr1 => ?_)
  obtain ⟨x3, rfl, rfl, br1⟩ := pr1 _ rfl
  show G 8 [some (.inr (.inr (0, 0))), some (.inl aa), some (.inl ab), none] [.inl x3] 122 s0
  refine px_if_eq hG dX10_wish_8 (tgt := 22) (by decide) ⟨by omega, by omega⟩ (fun c4 => ?_) (fun c4 => ?_)
  · refine px_iconst hG dX10_wish_22 ?_
    exact px_iret (st := []) hG dX10_wish_23 rfl rfl (fun aa_1 ab_1 ee => by cases ee; exact ⟨_, rfl, R0, pm_Fr_rf, by omega⟩)
  · refine px_aload_n hG dX10_wish_11 rfl ?_
    refine gr_0_0 hG dX10_wish_12 fl_X10_13 R0 ?_
    refine px_iload_n hG dX10_wish_15 rfl ?_
    refine jv1 hG dX10_wish_16 ct_X5_hasPlace lk_X10_85 ⟨rfl, rfl⟩ (by decide) ⟨Nat.le_of_ble_eq_true rfl, Nat.le_of_ble_eq_true rfl, Nat.le_of_ble_eq_true rfl⟩ (Nat.le_of_ble_eq_true rfl) ⟨ab, rfl, rfl, R0, by omega⟩ (fun r5 t6 pr5 => ?_)
    obtain ⟨x7, rfl, rfl, br5⟩ := pr5 _ rfl
    show G 19 [some (.inr (.inr (0, 0))), some (.inl aa), some (.inl ab), none] [.inl x7] 122 s0
    refine px_if_ne hG dX10_wish_19 (tgt := 24) (by decide) ⟨by omega, by omega⟩ (fun c8 => ?_) (fun c8 => ?_)
    · refine px_aload_n hG dX10_wish_24 rfl ?_
      refine gr_0_0 hG dX10_wish_25 fl_X10_13 R0 ?_
      refine gr_3_5 hG dX10_wish_28 fl_X10_106 R0 ?_
      refine px_iload_n hG dX10_wish_31 rfl ?_
      refine al_4 hG dX10_wish_32 R0 (by omega) (fun x9 ex9 lx9 ux9 => ?_)
      refine px_istore_n hG dX10_wish_33 (Nat.le_of_ble_eq_true rfl) (L2 := [some (.inr (.inr (0, 0))), some (.inl aa), some (.inl ab), some (.inl x9)]) rfl ?_
      refine px_aload_n hG dX10_wish_34 rfl ?_
      refine gr_0_0 hG dX10_wish_35 fl_X10_13 R0 ?_
      refine gr_3_5 hG dX10_wish_38 fl_X10_106 R0 ?_
      refine px_iload_n hG dX10_wish_41 rfl ?_
      refine px_iload_n hG dX10_wish_42 rfl ?_
      refine as_4 hG dX10_wish_43 R0 (by omega) (by omega) (fun s10 qs10 Rs10 => ?_)
      have Fs10 := pm_Fr_up ((pm_Fr_rf : pm_Fr [(3, some 4), (4, none), (6, none), (7, none)] s0 s0)) qs10 (M := [(3, some 4), (4, none), (6, none), (7, none)]) rfl
      have jj11 := pm_nec qs10 (c' := 3) (r' := 0) (i' := 0) (by decide)
      have jj12 := pm_nec qs10 (c' := 3) (r' := 0) (i' := 1) (by decide)
      have jj13 := pm_nec qs10 (c' := 3) (r' := 0) (i' := 2) (by decide)
      have jj14 := pm_nec qs10 (c' := 3) (r' := 0) (i' := 3) (by decide)
      refine px_aload_n hG dX10_wish_44 rfl ?_
      refine gr_0_0 hG dX10_wish_45 fl_X10_13 Rs10 ?_
      refine jv0 hG dX10_wish_48 ct_X5_settle lk_X10_100 ⟨rfl, rfl⟩ (by decide) ⟨Nat.le_of_ble_eq_true rfl, Nat.le_of_ble_eq_true rfl, Nat.le_of_ble_eq_true rfl⟩ (Nat.le_of_ble_eq_true rfl) ⟨rfl, rfl, Rs10, by omega⟩ (fun r15 t17 pr15 => ?_)
      obtain ⟨rfl, Rt17, Ft17⟩ := pr15 rfl
      have Ff19 := pm_Fr_tr Fs10 Ft17 (M := [(3, some 4), (4, none), (6, none), (7, none)]) rfl
      have jj20 := Ft17 3 0 0 rfl
      have jj21 := Ft17 3 0 1 rfl
      have jj22 := Ft17 3 0 2 rfl
      have jj23 := Ft17 3 0 3 rfl
      show G 51 [some (.inr (.inr (0, 0))), some (.inl aa), some (.inl ab), some (.inl x9)] [] 122 t17
      refine px_iload_n hG dX10_wish_51 rfl ?_
      have jj24 := Ff19 3 0 0 rfl
      have jj25 := Ff19 3 0 1 rfl
      have jj26 := Ff19 3 0 2 rfl
      have jj27 := Ff19 3 0 3 rfl
      exact px_iret (st := []) hG dX10_wish_52 rfl rfl (fun aa_1 ab_1 ee => by cases ee; exact ⟨_, rfl, Rt17, Ff19, by omega⟩)
    · refine px_iconst hG dX10_wish_22 ?_
      exact px_iret (st := []) hG dX10_wish_23 rfl rfl (fun aa_1 ab_1 ee => by cases ee; exact ⟨_, rfl, R0, pm_Fr_rf, by omega⟩))
def pre_X10_length (as : List pm_V) (n : Nat) (σ : pm_H) : Prop := ∃ aa ab : Int, as = [.inr (.inr (0, 0)), .inl aa, .inl ab] ∧ n = 122 ∧ pm_Rng σ ∧ (pm_in aa ∧ pm_in ab ∧ (σ 3 0 3 ≤ σ 3 0 1 ∧ (σ 3 0 0 = 2 → 0 ≤ σ 3 0 2 ∧ σ 3 0 2 ≤ 9)))
def po_X10_length (as : List pm_V) (_ : Nat) (σ : pm_H) (r : Option pm_V) (τ : pm_H) : Prop := ∀ aa ab : Int, as = [.inr (.inr (0, 0)), .inl aa, .inl ab] → ∃ v : Int, r = some (.inl v) ∧ pm_Rng τ ∧ pm_Fr [(3, some 4), (5, none), (6, none), (7, none)] σ τ ∧ ((τ 3 0 3 ≤ τ 3 0 1 ∧ (τ 3 0 0 = 2 → 0 ≤ τ 3 0 2 ∧ τ 3 0 2 ≤ 9)))
set_option maxRecDepth 20000 in
set_option maxHeartbeats 4000000 in
theorem ct_X10_length : pm_Ct yX10_length cX10_length 4 (some .int) 3 0 pre_X10_length po_X10_length := pm_sound (ini := false) (by decide +kernel) pk_X10_length (fun h => absurd h (by decide)) (by
  rintro as n s0 ⟨aa, ab, rfl, rfl, R0, hpre⟩
  refine ⟨by decide, Nat.le_of_ble_eq_true rfl, fun G hG => ?_⟩
  have hG : pm_Rules (RX10, 3, 122, cX10_length, -1, (fun _ => 0), false, (some .int), po_X10_length [.inr (.inr (0, 0)), .inl aa, .inl ab] 122 s0) G := hG
  show G 0 [some (.inr (.inr (0, 0))), some (.inl aa), some (.inl ab), none] [] 122 s0
  have B0 := pb_3_0 R0
  have B1 := pb_3_1 R0
  have B2 := pb_3_2 R0
  have B3 := pb_3_3 R0
  refine px_aload_n hG dX10_length_0 rfl ?_
  refine gr_0_0 hG dX10_length_1 fl_X10_13 R0 ?_
  refine px_iload_n hG dX10_length_4 rfl ?_
  refine jv1 hG dX10_length_5 ct_X5_hasCar lk_X10_103 ⟨rfl, rfl⟩ (by decide) ⟨Nat.le_of_ble_eq_true rfl, Nat.le_of_ble_eq_true rfl, Nat.le_of_ble_eq_true rfl⟩ (Nat.le_of_ble_eq_true rfl) ⟨aa, rfl, rfl, R0, by omega⟩ (fun r1 t2 pr1 => ?_)
  obtain ⟨x3, rfl, rfl, br1⟩ := pr1 _ rfl
  show G 8 [some (.inr (.inr (0, 0))), some (.inl aa), some (.inl ab), none] [.inl x3] 122 s0
  refine px_if_eq hG dX10_length_8 (tgt := 21) (by decide) ⟨by omega, by omega⟩ (fun c4 => ?_) (fun c4 => ?_)
  · refine px_iconst hG dX10_length_21 ?_
    exact px_iret (st := []) hG dX10_length_22 rfl rfl (fun aa_1 ab_1 ee => by cases ee; exact ⟨_, rfl, R0, pm_Fr_rf, by omega⟩)
  · refine px_iload_n hG dX10_length_11 rfl ?_
    refine px_iconst hG dX10_length_12 ?_
    refine px_ic_lt hG dX10_length_13 (tgt := 21) (by decide) ⟨by omega, by omega⟩ ⟨by omega, by omega⟩ (fun c5 => ?_) (fun c5 => ?_)
    · refine px_iconst hG dX10_length_21 ?_
      exact px_iret (st := []) hG dX10_length_22 rfl rfl (fun aa_1 ab_1 ee => by cases ee; exact ⟨_, rfl, R0, pm_Fr_rf, by omega⟩)
    · refine px_iload_n hG dX10_length_16 rfl ?_
      refine px_iconst hG dX10_length_17 ?_
      refine px_ic_le hG dX10_length_18 (tgt := 23) (by decide) ⟨by omega, by omega⟩ ⟨by omega, by omega⟩ (fun c6 => ?_) (fun c6 => ?_)
      · refine px_aload_n hG dX10_length_23 rfl ?_
        refine gr_0_0 hG dX10_length_24 fl_X10_13 R0 ?_
        refine gr_3_6 hG dX10_length_27 fl_X10_109 R0 ?_
        refine px_iload_n hG dX10_length_30 rfl ?_
        refine al_5 hG dX10_length_31 R0 (by omega) (fun x7 ex7 lx7 ux7 => ?_)
        refine px_istore_n hG dX10_length_32 (Nat.le_of_ble_eq_true rfl) (L2 := [some (.inr (.inr (0, 0))), some (.inl aa), some (.inl ab), some (.inl x7)]) rfl ?_
        refine px_aload_n hG dX10_length_33 rfl ?_
        refine gr_0_0 hG dX10_length_34 fl_X10_13 R0 ?_
        refine gr_3_6 hG dX10_length_37 fl_X10_109 R0 ?_
        refine px_iload_n hG dX10_length_40 rfl ?_
        refine px_iload_n hG dX10_length_41 rfl ?_
        refine as_5 hG dX10_length_42 R0 (by omega) (by omega) (fun s8 qs8 Rs8 => ?_)
        have Fs8 := pm_Fr_up ((pm_Fr_rf : pm_Fr [(3, some 4), (5, none), (6, none), (7, none)] s0 s0)) qs8 (M := [(3, some 4), (5, none), (6, none), (7, none)]) rfl
        have jj9 := pm_nec qs8 (c' := 3) (r' := 0) (i' := 0) (by decide)
        have jj10 := pm_nec qs8 (c' := 3) (r' := 0) (i' := 1) (by decide)
        have jj11 := pm_nec qs8 (c' := 3) (r' := 0) (i' := 2) (by decide)
        have jj12 := pm_nec qs8 (c' := 3) (r' := 0) (i' := 3) (by decide)
        refine px_aload_n hG dX10_length_43 rfl ?_
        refine gr_0_0 hG dX10_length_44 fl_X10_13 Rs8 ?_
        refine jv0 hG dX10_length_47 ct_X5_settle lk_X10_100 ⟨rfl, rfl⟩ (by decide) ⟨Nat.le_of_ble_eq_true rfl, Nat.le_of_ble_eq_true rfl, Nat.le_of_ble_eq_true rfl⟩ (Nat.le_of_ble_eq_true rfl) ⟨rfl, rfl, Rs8, by omega⟩ (fun r13 t15 pr13 => ?_)
        obtain ⟨rfl, Rt15, Ft15⟩ := pr13 rfl
        have Ff17 := pm_Fr_tr Fs8 Ft15 (M := [(3, some 4), (5, none), (6, none), (7, none)]) rfl
        have jj18 := Ft15 3 0 0 rfl
        have jj19 := Ft15 3 0 1 rfl
        have jj20 := Ft15 3 0 2 rfl
        have jj21 := Ft15 3 0 3 rfl
        show G 50 [some (.inr (.inr (0, 0))), some (.inl aa), some (.inl ab), some (.inl x7)] [] 122 t15
        refine px_iload_n hG dX10_length_50 rfl ?_
        have jj22 := Ff17 3 0 0 rfl
        have jj23 := Ff17 3 0 1 rfl
        have jj24 := Ff17 3 0 2 rfl
        have jj25 := Ff17 3 0 3 rfl
        exact px_iret (st := []) hG dX10_length_51 rfl rfl (fun aa_1 ab_1 ee => by cases ee; exact ⟨_, rfl, Rt15, Ff17, by omega⟩)
      · refine px_iconst hG dX10_length_21 ?_
        exact px_iret (st := []) hG dX10_length_22 rfl rfl (fun aa_1 ab_1 ee => by cases ee; exact ⟨_, rfl, R0, pm_Fr_rf, by omega⟩))
def pre_X10_undo (as : List pm_V) (n : Nat) (σ : pm_H) : Prop := as = [.inr (.inr (0, 0))] ∧ n = 122 ∧ pm_Rng σ ∧ ((σ 3 0 3 ≤ σ 3 0 1 ∧ (σ 3 0 0 = 2 → 0 ≤ σ 3 0 2 ∧ σ 3 0 2 ≤ 9)))
def po_X10_undo (as : List pm_V) (_ : Nat) (σ : pm_H) (r : Option pm_V) (τ : pm_H) : Prop := as = [.inr (.inr (0, 0))] → ∃ v : Int, r = some (.inl v) ∧ pm_Rng τ ∧ pm_Fr [(3, some 3), (3, some 4), (6, none), (7, none)] σ τ ∧ ((τ 3 0 3 ≤ τ 3 0 1 ∧ (τ 3 0 0 = 2 → 0 ≤ τ 3 0 2 ∧ τ 3 0 2 ≤ 9)))
set_option maxRecDepth 20000 in
set_option maxHeartbeats 4000000 in
theorem ct_X10_undo : pm_Ct yX10_undo cX10_undo 1 (some .int) 4 0 pre_X10_undo po_X10_undo := pm_sound (ini := false) (by decide +kernel) pk_X10_undo (fun h => absurd h (by decide)) (by
  rintro as n s0 ⟨rfl, rfl, R0, hpre⟩
  refine ⟨by decide, Nat.le_of_ble_eq_true rfl, fun G hG => ?_⟩
  have hG : pm_Rules (RX10, 4, 122, cX10_undo, -1, (fun _ => 0), false, (some .int), po_X10_undo [.inr (.inr (0, 0))] 122 s0) G := hG
  show G 0 [some (.inr (.inr (0, 0)))] [] 122 s0
  have B0 := pb_3_0 R0
  have B1 := pb_3_1 R0
  have B2 := pb_3_2 R0
  have B3 := pb_3_3 R0
  refine px_aload_n hG dX10_undo_0 rfl ?_
  refine gr_0_0 hG dX10_undo_1 fl_X10_13 R0 ?_
  refine gi_3_3 hG dX10_undo_4 fl_X10_89 R0 (fun x1 ex1 lx1 ux1 => ?_)
  refine px_if_ne hG dX10_undo_7 (tgt := 13) (by decide) ⟨by omega, by omega⟩ (fun c2 => ?_) (fun c2 => ?_)
  · refine px_aload_n hG dX10_undo_13 rfl ?_
    refine gr_0_0 hG dX10_undo_14 fl_X10_13 R0 ?_
    refine px_aload_n hG dX10_undo_17 rfl ?_
    refine gr_0_0 hG dX10_undo_18 fl_X10_13 R0 ?_
    refine gi_3_3 hG dX10_undo_21 fl_X10_89 R0 (fun x3 ex3 lx3 ux3 => ?_)
    refine px_iconst hG dX10_undo_24 ?_
    refine px_isub hG dX10_undo_25 ?_
    refine jv1 hG dX10_undo_26 ct_X5_leaveOnly lk_X10_112 ⟨rfl, rfl⟩ (by decide) ⟨Nat.le_of_ble_eq_true rfl, Nat.le_of_ble_eq_true rfl, Nat.le_of_ble_eq_true rfl⟩ (Nat.le_of_ble_eq_true rfl) ⟨(x3 - 1), rfl, rfl, R0, by omega⟩ (fun r4 t6 pr4 => ?_)
    obtain ⟨rfl, Rt6, Ft6, br4⟩ := pr4 _ rfl
    have Ff8 := pm_Fr_mono Ft6 (M := [(3, some 3), (3, some 4), (6, none), (7, none)]) rfl
    have jj9 := Ft6 3 0 0 rfl
    have jj10 := Ft6 3 0 1 rfl
    have jj11 := Ft6 3 0 2 rfl
    show G 29 [some (.inr (.inr (0, 0)))] [] 122 t6
    refine px_aload_n hG dX10_undo_29 rfl ?_
    refine gr_0_0 hG dX10_undo_30 fl_X10_13 Rt6 ?_
    refine gi_3_3 hG dX10_undo_33 fl_X10_89 Rt6 (fun x12 ex12 lx12 ux12 => ?_)
    have jj13 := Ff8 3 0 0 rfl
    have jj14 := Ff8 3 0 1 rfl
    have jj15 := Ff8 3 0 2 rfl
    exact px_iret (st := []) hG dX10_undo_36 rfl rfl (fun _ => by exact ⟨_, rfl, Rt6, Ff8, by omega⟩)
  · refine px_bipush hG dX10_undo_10 (by decide) ?_
    exact px_iret (st := []) hG dX10_undo_12 rfl rfl (fun _ => by exact ⟨_, rfl, R0, pm_Fr_rf, by omega⟩))
def pre_X10_clear (as : List pm_V) (n : Nat) (σ : pm_H) : Prop := as = [.inr (.inr (0, 0))] ∧ n = 122 ∧ pm_Rng σ ∧ ((σ 3 0 3 ≤ σ 3 0 1 ∧ (σ 3 0 0 = 2 → 0 ≤ σ 3 0 2 ∧ σ 3 0 2 ≤ 9)))
def po_X10_clear (as : List pm_V) (_ : Nat) (σ : pm_H) (r : Option pm_V) (τ : pm_H) : Prop := as = [.inr (.inr (0, 0))] → ∃ v : Int, r = some (.inl v) ∧ pm_Rng τ ∧ pm_Fr [(3, some 3), (3, some 4), (6, none), (7, none)] σ τ ∧ ((τ 3 0 3 ≤ τ 3 0 1 ∧ (τ 3 0 0 = 2 → 0 ≤ τ 3 0 2 ∧ τ 3 0 2 ≤ 9)))
set_option maxRecDepth 20000 in
set_option maxHeartbeats 4000000 in
theorem ct_X10_clear : pm_Ct yX10_clear cX10_clear 2 (some .int) 4 0 pre_X10_clear po_X10_clear := pm_sound (ini := false) (by decide +kernel) pk_X10_clear (fun h => absurd h (by decide)) (by
  rintro as n s0 ⟨rfl, rfl, R0, hpre⟩
  refine ⟨by decide, Nat.le_of_ble_eq_true rfl, fun G hG => ?_⟩
  have hG : pm_Rules (RX10, 4, 122, cX10_clear, -1, (fun _ => 0), false, (some .int), po_X10_clear [.inr (.inr (0, 0))] 122 s0) G := hG
  show G 0 [some (.inr (.inr (0, 0))), none] [] 122 s0
  have B0 := pb_3_0 R0
  have B1 := pb_3_1 R0
  have B2 := pb_3_2 R0
  have B3 := pb_3_3 R0
  refine px_aload_n hG dX10_clear_0 rfl ?_
  refine gr_0_0 hG dX10_clear_1 fl_X10_13 R0 ?_
  refine gi_3_3 hG dX10_clear_4 fl_X10_89 R0 (fun x1 ex1 lx1 ux1 => ?_)
  refine px_istore_n hG dX10_clear_7 (Nat.le_of_ble_eq_true rfl) (L2 := [some (.inr (.inr (0, 0))), some (.inl x1)]) rfl ?_
  refine px_aload_n hG dX10_clear_8 rfl ?_
  refine gr_0_0 hG dX10_clear_9 fl_X10_13 R0 ?_
  refine px_iconst hG dX10_clear_12 ?_
  refine jv1 hG dX10_clear_13 ct_X5_leaveOnly lk_X10_112 ⟨rfl, rfl⟩ (by decide) ⟨Nat.le_of_ble_eq_true rfl, Nat.le_of_ble_eq_true rfl, Nat.le_of_ble_eq_true rfl⟩ (Nat.le_of_ble_eq_true rfl) ⟨0, rfl, rfl, R0, by omega⟩ (fun r2 t4 pr2 => ?_)
  obtain ⟨rfl, Rt4, Ft4, br2⟩ := pr2 _ rfl
  have Ff6 := pm_Fr_mono Ft4 (M := [(3, some 3), (3, some 4), (6, none), (7, none)]) rfl
  have jj7 := Ft4 3 0 0 rfl
  have jj8 := Ft4 3 0 1 rfl
  have jj9 := Ft4 3 0 2 rfl
  show G 16 [some (.inr (.inr (0, 0))), some (.inl x1)] [] 122 t4
  refine px_iload_n hG dX10_clear_16 rfl ?_
  have jj10 := Ff6 3 0 0 rfl
  have jj11 := Ff6 3 0 1 rfl
  have jj12 := Ff6 3 0 2 rfl
  exact px_iret (st := []) hG dX10_clear_17 rfl rfl (fun _ => by exact ⟨_, rfl, Rt4, Ff6, by omega⟩))
def pre_X10_told (as : List pm_V) (n : Nat) (σ : pm_H) : Prop := ∃ aa ab : Int, as = [.inr (.inr (0, 0)), .inl aa, .inl ab] ∧ n = 122 ∧ pm_Rng σ ∧ (pm_in aa ∧ pm_in ab ∧ (σ 3 0 3 ≤ σ 3 0 1 ∧ (σ 3 0 0 = 2 → 0 ≤ σ 3 0 2 ∧ σ 3 0 2 ≤ 9)))
def po_X10_told (as : List pm_V) (_ : Nat) (σ : pm_H) (r : Option pm_V) (τ : pm_H) : Prop := ∀ aa ab : Int, as = [.inr (.inr (0, 0)), .inl aa, .inl ab] → ∃ v : Int, r = some (.inl v) ∧ σ = τ
set_option maxRecDepth 20000 in
set_option maxHeartbeats 4000000 in
theorem ct_X10_told : pm_Ct yX10_told cX10_told 3 (some .int) 1 0 pre_X10_told po_X10_told := pm_sound (ini := false) (by decide +kernel) pk_X10_told (fun h => absurd h (by decide)) (by
  rintro as n s0 ⟨aa, ab, rfl, rfl, R0, hpre⟩
  refine ⟨by decide, Nat.le_of_ble_eq_true rfl, fun G hG => ?_⟩
  have hG : pm_Rules (RX10, 1, 122, cX10_told, -1, (fun _ => 0), false, (some .int), po_X10_told [.inr (.inr (0, 0)), .inl aa, .inl ab] 122 s0) G := hG
  show G 0 [some (.inr (.inr (0, 0))), some (.inl aa), some (.inl ab)] [] 122 s0
  have B0 := pb_3_0 R0
  have B1 := pb_3_1 R0
  have B2 := pb_3_2 R0
  have B3 := pb_3_3 R0
  refine px_aload_n hG dX10_told_0 rfl ?_
  refine gr_0_0 hG dX10_told_1 fl_X10_13 R0 ?_
  refine px_iload_n hG dX10_told_4 rfl ?_
  refine jv1 hG dX10_told_5 ct_X5_hasCar lk_X10_103 ⟨rfl, rfl⟩ (by decide) ⟨Nat.le_of_ble_eq_true rfl, Nat.le_of_ble_eq_true rfl, Nat.le_of_ble_eq_true rfl⟩ (Nat.le_of_ble_eq_true rfl) ⟨aa, rfl, rfl, R0, by omega⟩ (fun r1 t2 pr1 => ?_)
  obtain ⟨x3, rfl, rfl, br1⟩ := pr1 _ rfl
  show G 8 [some (.inr (.inr (0, 0))), some (.inl aa), some (.inl ab)] [.inl x3] 122 s0
  refine px_if_ne hG dX10_told_8 (tgt := 13) (by decide) ⟨by omega, by omega⟩ (fun c4 => ?_) (fun c4 => ?_)
  · refine px_iload_n hG dX10_told_13 rfl ?_
    refine px_tsw hG dX10_told_14 ⟨by omega, by omega⟩ (by decide) (And.intro (by decide) (And.intro (fun c14_0 => ?_) (And.intro (by decide) (And.intro (fun c14_1 => ?_) (And.intro (by decide) (And.intro (fun c14_2 => ?_) (And.intro (by decide) (And.intro (fun c14_3 => ?_) (And.intro (by decide) (And.intro (fun c14_4 => ?_) (trivial))))))))))) (fun c14_d => ?_) (by decide)
    · show G 48 [some (.inr (.inr (0, 0))), some (.inl aa), some (.inl ab)] [] 122 s0
      refine px_aload_n hG dX10_told_48 rfl ?_
      refine gr_0_0 hG dX10_told_49 fl_X10_13 R0 ?_
      refine gr_3_5 hG dX10_told_52 fl_X10_106 R0 ?_
      refine px_iload_n hG dX10_told_55 rfl ?_
      refine al_4 hG dX10_told_56 R0 (by omega) (fun x5 ex5 lx5 ux5 => ?_)
      exact px_iret (st := []) hG dX10_told_57 rfl rfl (fun aa_1 ab_1 ee => by cases ee; exact ⟨_, rfl, rfl⟩)
    · show G 58 [some (.inr (.inr (0, 0))), some (.inl aa), some (.inl ab)] [] 122 s0
      refine px_aload_n hG dX10_told_58 rfl ?_
      refine gr_0_0 hG dX10_told_59 fl_X10_13 R0 ?_
      refine gr_3_6 hG dX10_told_62 fl_X10_109 R0 ?_
      refine px_iload_n hG dX10_told_65 rfl ?_
      refine al_5 hG dX10_told_66 R0 (by omega) (fun x6 ex6 lx6 ux6 => ?_)
      exact px_iret (st := []) hG dX10_told_67 rfl rfl (fun aa_1 ab_1 ee => by cases ee; exact ⟨_, rfl, rfl⟩)
    · show G 68 [some (.inr (.inr (0, 0))), some (.inl aa), some (.inl ab)] [] 122 s0
      refine px_aload_n hG dX10_told_68 rfl ?_
      refine gr_0_0 hG dX10_told_69 fl_X10_13 R0 ?_
      refine px_iload_n hG dX10_told_72 rfl ?_
      refine jv1 hG dX10_told_73 ct_X5_comesIn lk_X10_115 ⟨rfl, rfl⟩ (by decide) ⟨Nat.le_of_ble_eq_true rfl, Nat.le_of_ble_eq_true rfl, Nat.le_of_ble_eq_true rfl⟩ (Nat.le_of_ble_eq_true rfl) ⟨aa, rfl, rfl, R0, by omega⟩ (fun r7 t8 pr7 => ?_)
      obtain ⟨x9, rfl, rfl, br7⟩ := pr7 _ rfl
      show G 76 [some (.inr (.inr (0, 0))), some (.inl aa), some (.inl ab)] [.inl x9] 122 s0
      refine px_if_eq hG dX10_told_76 (tgt := 91) (by decide) ⟨by omega, by omega⟩ (fun c10 => ?_) (fun c10 => ?_)
      · refine px_bipush hG dX10_told_91 (by decide) ?_
        exact px_iret (st := []) hG dX10_told_93 rfl rfl (fun aa_1 ab_1 ee => by cases ee; exact ⟨_, rfl, rfl⟩)
      · refine px_aload_n hG dX10_told_79 rfl ?_
        refine gr_0_0 hG dX10_told_80 fl_X10_13 R0 ?_
        refine gr_3_7 hG dX10_told_83 fl_X10_118 R0 ?_
        refine px_iload_n hG dX10_told_86 rfl ?_
        refine al_6 hG dX10_told_87 R0 (by omega) (fun x11 ex11 lx11 ux11 => ?_)
        refine px_goto hG dX10_told_88 (tgt := 93) (by decide) ?_
        exact px_iret (st := []) hG dX10_told_93 rfl rfl (fun aa_1 ab_1 ee => by cases ee; exact ⟨_, rfl, rfl⟩)
    · show G 94 [some (.inr (.inr (0, 0))), some (.inl aa), some (.inl ab)] [] 122 s0
      refine px_aload_n hG dX10_told_94 rfl ?_
      refine gr_0_0 hG dX10_told_95 fl_X10_13 R0 ?_
      refine px_iload_n hG dX10_told_98 rfl ?_
      refine jv1 hG dX10_told_99 ct_X5_comesIn lk_X10_115 ⟨rfl, rfl⟩ (by decide) ⟨Nat.le_of_ble_eq_true rfl, Nat.le_of_ble_eq_true rfl, Nat.le_of_ble_eq_true rfl⟩ (Nat.le_of_ble_eq_true rfl) ⟨aa, rfl, rfl, R0, by omega⟩ (fun r12 t13 pr12 => ?_)
      obtain ⟨x14, rfl, rfl, br12⟩ := pr12 _ rfl
      show G 102 [some (.inr (.inr (0, 0))), some (.inl aa), some (.inl ab)] [.inl x14] 122 s0
      refine px_if_eq hG dX10_told_102 (tgt := 116) (by decide) ⟨by omega, by omega⟩ (fun c15 => ?_) (fun c15 => ?_)
      · refine px_bipush hG dX10_told_116 (by decide) ?_
        exact px_iret (st := []) hG dX10_told_118 rfl rfl (fun aa_1 ab_1 ee => by cases ee; exact ⟨_, rfl, rfl⟩)
      · refine px_aload_n hG dX10_told_105 rfl ?_
        refine gr_0_0 hG dX10_told_106 fl_X10_13 R0 ?_
        refine px_iload_n hG dX10_told_109 rfl ?_
        refine jv1 hG dX10_told_110 ct_X5_far lk_X10_121 ⟨rfl, rfl⟩ (by decide) ⟨Nat.le_of_ble_eq_true rfl, Nat.le_of_ble_eq_true rfl, Nat.le_of_ble_eq_true rfl⟩ (Nat.le_of_ble_eq_true rfl) ⟨aa, rfl, rfl, R0, by omega⟩ (fun r16 t17 pr16 => ?_)
        obtain ⟨x18, rfl, rfl, br16⟩ := pr16 _ rfl
        show G 113 [some (.inr (.inr (0, 0))), some (.inl aa), some (.inl ab)] [.inl x18] 122 s0
        refine px_goto hG dX10_told_113 (tgt := 118) (by decide) ?_
        exact px_iret (st := []) hG dX10_told_118 rfl rfl (fun aa_1 ab_1 ee => by cases ee; exact ⟨_, rfl, rfl⟩)
    · show G 119 [some (.inr (.inr (0, 0))), some (.inl aa), some (.inl ab)] [] 122 s0
      refine px_aload_n hG dX10_told_119 rfl ?_
      refine gr_0_0 hG dX10_told_120 fl_X10_13 R0 ?_
      refine px_iload_n hG dX10_told_123 rfl ?_
      refine jv1 hG dX10_told_124 ct_X5_isLucky lk_X10_125 ⟨rfl, rfl⟩ (by decide) ⟨Nat.le_of_ble_eq_true rfl, Nat.le_of_ble_eq_true rfl, Nat.le_of_ble_eq_true rfl⟩ (Nat.le_of_ble_eq_true rfl) ⟨aa, rfl, rfl, R0, by omega⟩ (fun r19 t20 pr19 => ?_)
      obtain ⟨x21, rfl, rfl, br19⟩ := pr19 _ rfl
      show G 127 [some (.inr (.inr (0, 0))), some (.inl aa), some (.inl ab)] [.inl x21] 122 s0
      refine px_if_eq hG dX10_told_127 (tgt := 134) (by decide) ⟨by omega, by omega⟩ (fun c22 => ?_) (fun c22 => ?_)
      · refine px_iconst hG dX10_told_134 ?_
        exact px_iret (st := []) hG dX10_told_135 rfl rfl (fun aa_1 ab_1 ee => by cases ee; exact ⟨_, rfl, rfl⟩)
      · refine px_iconst hG dX10_told_130 ?_
        refine px_goto hG dX10_told_131 (tgt := 135) (by decide) ?_
        exact px_iret (st := []) hG dX10_told_135 rfl rfl (fun aa_1 ab_1 ee => by cases ee; exact ⟨_, rfl, rfl⟩)
    · show G 136 [some (.inr (.inr (0, 0))), some (.inl aa), some (.inl ab)] [] 122 s0
      refine px_iconst hG dX10_told_136 ?_
      exact px_iret (st := []) hG dX10_told_137 rfl rfl (fun aa_1 ab_1 ee => by cases ee; exact ⟨_, rfl, rfl⟩)
  · refine px_iconst hG dX10_told_11 ?_
    exact px_iret (st := []) hG dX10_told_12 rfl rfl (fun aa_1 ab_1 ee => by cases ee; exact ⟨_, rfl, rfl⟩))
def pre_X10_on (as : List pm_V) (n : Nat) (σ : pm_H) : Prop := ∃ aa : Int, as = [.inr (.inr (0, 0)), .inl aa] ∧ n = 122 ∧ pm_Rng σ ∧ (pm_in aa ∧ (σ 3 0 3 ≤ σ 3 0 1 ∧ (σ 3 0 0 = 2 → 0 ≤ σ 3 0 2 ∧ σ 3 0 2 ≤ 9)))
def po_X10_on (as : List pm_V) (_ : Nat) (σ : pm_H) (r : Option pm_V) (τ : pm_H) : Prop := ∀ aa : Int, as = [.inr (.inr (0, 0)), .inl aa] → ∃ v : Int, r = some (.inl v) ∧ σ = τ
set_option maxRecDepth 20000 in
set_option maxHeartbeats 4000000 in
theorem ct_X10_on : pm_Ct yX10_on cX10_on 2 (some .int) 2 0 pre_X10_on po_X10_on := pm_sound (ini := false) (by decide +kernel) pk_X10_on (fun h => absurd h (by decide)) (by
  rintro as n s0 ⟨aa, rfl, rfl, R0, hpre⟩
  refine ⟨by decide, Nat.le_of_ble_eq_true rfl, fun G hG => ?_⟩
  have hG : pm_Rules (RX10, 2, 122, cX10_on, -1, (fun _ => 0), false, (some .int), po_X10_on [.inr (.inr (0, 0)), .inl aa] 122 s0) G := hG
  show G 0 [some (.inr (.inr (0, 0))), some (.inl aa)] [] 122 s0
  have B0 := pb_3_0 R0
  have B1 := pb_3_1 R0
  have B2 := pb_3_2 R0
  have B3 := pb_3_3 R0
  refine px_aload_n hG dX10_on_0 rfl ?_
  refine gr_0_0 hG dX10_on_1 fl_X10_13 R0 ?_
  refine px_iload_n hG dX10_on_4 rfl ?_
  refine jv1 hG dX10_on_5 ct_X5_hasPlace lk_X10_85 ⟨rfl, rfl⟩ (by decide) ⟨Nat.le_of_ble_eq_true rfl, Nat.le_of_ble_eq_true rfl, Nat.le_of_ble_eq_true rfl⟩ (Nat.le_of_ble_eq_true rfl) ⟨aa, rfl, rfl, R0, by omega⟩ (fun r1 t2 pr1 => ?_)
  obtain ⟨x3, rfl, rfl, br1⟩ := pr1 _ rfl
  show G 8 [some (.inr (.inr (0, 0))), some (.inl aa)] [.inl x3] 122 s0
  refine px_if_eq hG dX10_on_8 (tgt := 22) (by decide) ⟨by omega, by omega⟩ (fun c4 => ?_) (fun c4 => ?_)
  · refine px_iconst hG dX10_on_22 ?_
    exact px_iret (st := []) hG dX10_on_23 rfl rfl (fun aa_1 ee => by cases ee; exact ⟨_, rfl, rfl⟩)
  · refine px_aload_n hG dX10_on_11 rfl ?_
    refine gr_0_0 hG dX10_on_12 fl_X10_13 R0 ?_
    refine px_iload_n hG dX10_on_15 rfl ?_
    refine jv1 hG dX10_on_16 ct_X5_carOn lk_X10_128 ⟨rfl, rfl⟩ (by decide) ⟨Nat.le_of_ble_eq_true rfl, Nat.le_of_ble_eq_true rfl, Nat.le_of_ble_eq_true rfl⟩ (Nat.le_of_ble_eq_true rfl) ⟨aa, rfl, rfl, R0⟩ (fun r5 t6 pr5 => ?_)
    obtain ⟨x7, rfl, rfl, br5⟩ := pr5 _ rfl
    show G 19 [some (.inr (.inr (0, 0))), some (.inl aa)] [.inl x7] 122 s0
    refine px_goto hG dX10_on_19 (tgt := 23) (by decide) ?_
    exact px_iret (st := []) hG dX10_on_23 rfl rfl (fun aa_1 ee => by cases ee; exact ⟨_, rfl, rfl⟩))
def pre_X10_count (as : List pm_V) (n : Nat) (σ : pm_H) : Prop := ∃ aa : Int, as = [.inr (.inr (0, 0)), .inl aa] ∧ n = 122 ∧ pm_Rng σ ∧ (pm_in aa ∧ (σ 3 0 3 ≤ σ 3 0 1 ∧ (σ 3 0 0 = 2 → 0 ≤ σ 3 0 2 ∧ σ 3 0 2 ≤ 9)))
def po_X10_count (as : List pm_V) (_ : Nat) (σ : pm_H) (r : Option pm_V) (τ : pm_H) : Prop := ∀ aa : Int, as = [.inr (.inr (0, 0)), .inl aa] → ∃ v : Int, r = some (.inl v) ∧ σ = τ
set_option maxRecDepth 20000 in
set_option maxHeartbeats 4000000 in
theorem ct_X10_count : pm_Ct yX10_count cX10_count 2 (some .int) 2 0 pre_X10_count po_X10_count := pm_sound (ini := false) (by decide +kernel) pk_X10_count (fun h => absurd h (by decide)) (by
  rintro as n s0 ⟨aa, rfl, rfl, R0, hpre⟩
  refine ⟨by decide, Nat.le_of_ble_eq_true rfl, fun G hG => ?_⟩
  have hG : pm_Rules (RX10, 2, 122, cX10_count, -1, (fun _ => 0), false, (some .int), po_X10_count [.inr (.inr (0, 0)), .inl aa] 122 s0) G := hG
  show G 0 [some (.inr (.inr (0, 0))), some (.inl aa)] [] 122 s0
  have B0 := pb_3_0 R0
  have B1 := pb_3_1 R0
  have B2 := pb_3_2 R0
  have B3 := pb_3_3 R0
  refine px_iload_n hG dX10_count_0 rfl ?_
  refine px_tsw hG dX10_count_1 ⟨by omega, by omega⟩ (by decide) (And.intro (by decide) (And.intro (fun c1_0 => ?_) (And.intro (by decide) (And.intro (fun c1_1 => ?_) (And.intro (by decide) (And.intro (fun c1_2 => ?_) (And.intro (by decide) (And.intro (fun c1_3 => ?_) (And.intro (by decide) (And.intro (fun c1_4 => ?_) (And.intro (by decide) (And.intro (fun c1_5 => ?_) (And.intro (by decide) (And.intro (fun c1_6 => ?_) (And.intro (by decide) (And.intro (fun c1_7 => ?_) (trivial))))))))))))))))) (fun c1_d => ?_) (by decide)
  · show G 48 [some (.inr (.inr (0, 0))), some (.inl aa)] [] 122 s0
    refine px_aload_n hG dX10_count_48 rfl ?_
    refine gr_0_0 hG dX10_count_49 fl_X10_13 R0 ?_
    refine gi_3_1 hG dX10_count_52 fl_X10_93 R0 (fun x1 ex1 lx1 ux1 => ?_)
    exact px_iret (st := []) hG dX10_count_55 rfl rfl (fun aa_1 ee => by cases ee; exact ⟨_, rfl, rfl⟩)
  · show G 56 [some (.inr (.inr (0, 0))), some (.inl aa)] [] 122 s0
    refine px_aload_n hG dX10_count_56 rfl ?_
    refine gr_0_0 hG dX10_count_57 fl_X10_13 R0 ?_
    refine gi_3_3 hG dX10_count_60 fl_X10_89 R0 (fun x2 ex2 lx2 ux2 => ?_)
    exact px_iret (st := []) hG dX10_count_63 rfl rfl (fun aa_1 ee => by cases ee; exact ⟨_, rfl, rfl⟩)
  · show G 64 [some (.inr (.inr (0, 0))), some (.inl aa)] [] 122 s0
    refine px_aload_n hG dX10_count_64 rfl ?_
    refine gr_0_0 hG dX10_count_65 fl_X10_13 R0 ?_
    refine jv0 hG dX10_count_68 ct_X5_howManyIn lk_X10_131 ⟨rfl, rfl⟩ (by decide) ⟨Nat.le_of_ble_eq_true rfl, Nat.le_of_ble_eq_true rfl, Nat.le_of_ble_eq_true rfl⟩ (Nat.le_of_ble_eq_true rfl) ⟨rfl, rfl, R0⟩ (fun r3 t4 pr3 => ?_)
    obtain ⟨x5, rfl, rfl, br3⟩ := pr3 rfl
    show G 71 [some (.inr (.inr (0, 0))), some (.inl aa)] [.inl x5] 122 s0
    exact px_iret (st := []) hG dX10_count_71 rfl rfl (fun aa_1 ee => by cases ee; exact ⟨_, rfl, rfl⟩)
  · show G 72 [some (.inr (.inr (0, 0))), some (.inl aa)] [] 122 s0
    refine px_aload_n hG dX10_count_72 rfl ?_
    refine gr_0_0 hG dX10_count_73 fl_X10_13 R0 ?_
    refine gi_3_3 hG dX10_count_76 fl_X10_89 R0 (fun x6 ex6 lx6 ux6 => ?_)
    refine px_aload_n hG dX10_count_79 rfl ?_
    refine gr_0_0 hG dX10_count_80 fl_X10_13 R0 ?_
    refine jv0 hG dX10_count_83 ct_X5_howManyIn lk_X10_131 ⟨rfl, rfl⟩ (by decide) ⟨Nat.le_of_ble_eq_true rfl, Nat.le_of_ble_eq_true rfl, Nat.le_of_ble_eq_true rfl⟩ (Nat.le_of_ble_eq_true rfl) ⟨rfl, rfl, R0⟩ (fun r7 t8 pr7 => ?_)
    obtain ⟨x9, rfl, rfl, br7⟩ := pr7 rfl
    show G 86 [some (.inr (.inr (0, 0))), some (.inl aa)] [.inl x9, .inl x6] 122 s0
    refine px_isub hG dX10_count_86 ?_
    exact px_iret (st := []) hG dX10_count_87 rfl rfl (fun aa_1 ee => by cases ee; exact ⟨_, rfl, rfl⟩)
  · show G 88 [some (.inr (.inr (0, 0))), some (.inl aa)] [] 122 s0
    refine px_aload_n hG dX10_count_88 rfl ?_
    refine gr_0_0 hG dX10_count_89 fl_X10_13 R0 ?_
    refine jv0 hG dX10_count_92 ct_X5_howManyLucky lk_X10_135 ⟨rfl, rfl⟩ (by decide) ⟨Nat.le_of_ble_eq_true rfl, Nat.le_of_ble_eq_true rfl, Nat.le_of_ble_eq_true rfl⟩ (Nat.le_of_ble_eq_true rfl) ⟨rfl, rfl, R0⟩ (fun r10 t11 pr10 => ?_)
    obtain ⟨x12, rfl, rfl, br10⟩ := pr10 rfl
    show G 95 [some (.inr (.inr (0, 0))), some (.inl aa)] [.inl x12] 122 s0
    exact px_iret (st := []) hG dX10_count_95 rfl rfl (fun aa_1 ee => by cases ee; exact ⟨_, rfl, rfl⟩)
  · show G 96 [some (.inr (.inr (0, 0))), some (.inl aa)] [] 122 s0
    refine px_aload_n hG dX10_count_96 rfl ?_
    refine gr_0_0 hG dX10_count_97 fl_X10_13 R0 ?_
    refine jv0 hG dX10_count_100 ct_X5_farOfAll lk_X10_138 ⟨rfl, rfl⟩ (by decide) ⟨Nat.le_of_ble_eq_true rfl, Nat.le_of_ble_eq_true rfl, Nat.le_of_ble_eq_true rfl⟩ (Nat.le_of_ble_eq_true rfl) ⟨rfl, rfl, R0⟩ (fun r13 t14 pr13 => ?_)
    obtain ⟨x15, rfl, rfl, br13⟩ := pr13 rfl
    show G 103 [some (.inr (.inr (0, 0))), some (.inl aa)] [.inl x15] 122 s0
    exact px_iret (st := []) hG dX10_count_103 rfl rfl (fun aa_1 ee => by cases ee; exact ⟨_, rfl, rfl⟩)
  · show G 104 [some (.inr (.inr (0, 0))), some (.inl aa)] [] 122 s0
    refine px_aload_n hG dX10_count_104 rfl ?_
    refine gr_0_0 hG dX10_count_105 fl_X10_13 R0 ?_
    refine jv0 hG dX10_count_108 ct_X5_farthest lk_X10_141 ⟨rfl, rfl⟩ (by decide) ⟨Nat.le_of_ble_eq_true rfl, Nat.le_of_ble_eq_true rfl, Nat.le_of_ble_eq_true rfl⟩ (Nat.le_of_ble_eq_true rfl) ⟨rfl, rfl, R0⟩ (fun r16 t17 pr16 => ?_)
    obtain ⟨x18, rfl, rfl, br16⟩ := pr16 rfl
    show G 111 [some (.inr (.inr (0, 0))), some (.inl aa)] [.inl x18] 122 s0
    exact px_iret (st := []) hG dX10_count_111 rfl rfl (fun aa_1 ee => by cases ee; exact ⟨_, rfl, rfl⟩)
  · show G 112 [some (.inr (.inr (0, 0))), some (.inl aa)] [] 122 s0
    refine px_aload_n hG dX10_count_112 rfl ?_
    refine gr_0_0 hG dX10_count_113 fl_X10_13 R0 ?_
    refine gi_3_1 hG dX10_count_116 fl_X10_93 R0 (fun x19 ex19 lx19 ux19 => ?_)
    refine px_aload_n hG dX10_count_119 rfl ?_
    refine gr_0_0 hG dX10_count_120 fl_X10_13 R0 ?_
    refine gi_3_4 hG dX10_count_123 fl_X10_144 R0 (fun x20 ex20 lx20 ux20 => ?_)
    refine js1 hG dX10_count_126 ct_J6_bitCount_0f7a4 lk_X10_147 ⟨Nat.le_of_ble_eq_true rfl, Nat.le_of_ble_eq_true rfl, Nat.le_of_ble_eq_true rfl⟩ (Nat.le_of_ble_eq_true rfl) ⟨x20, rfl, rfl, R0⟩ (fun r21 t22 pr21 => ?_)
    obtain ⟨x23, rfl, rfl, br21⟩ := pr21 _ rfl
    show G 129 [some (.inr (.inr (0, 0))), some (.inl aa)] [.inl x23, .inl x19] 122 s0
    refine px_isub hG dX10_count_129 ?_
    exact px_iret (st := []) hG dX10_count_130 rfl rfl (fun aa_1 ee => by cases ee; exact ⟨_, rfl, rfl⟩)
  · show G 131 [some (.inr (.inr (0, 0))), some (.inl aa)] [] 122 s0
    refine px_iconst hG dX10_count_131 ?_
    exact px_iret (st := []) hG dX10_count_132 rfl rfl (fun aa_1 ee => by cases ee; exact ⟨_, rfl, rfl⟩))
def pre_X10_good (as : List pm_V) (n : Nat) (σ : pm_H) : Prop := as = [.inr (.inr (0, 0))] ∧ n = 122 ∧ pm_Rng σ ∧ ((σ 3 0 3 ≤ σ 3 0 1 ∧ (σ 3 0 0 = 2 → 0 ≤ σ 3 0 2 ∧ σ 3 0 2 ≤ 9)))
def po_X10_good (as : List pm_V) (_ : Nat) (σ : pm_H) (r : Option pm_V) (τ : pm_H) : Prop := as = [.inr (.inr (0, 0))] → ∃ v : Int, r = some (.inl v) ∧ σ = τ
set_option maxRecDepth 20000 in
set_option maxHeartbeats 4000000 in
theorem ct_X10_good : pm_Ct yX10_good cX10_good 1 (some .int) 3 0 pre_X10_good po_X10_good := pm_sound (ini := false) (by decide +kernel) pk_X10_good (fun h => absurd h (by decide)) (by
  rintro as n s0 ⟨rfl, rfl, R0, hpre⟩
  refine ⟨by decide, Nat.le_of_ble_eq_true rfl, fun G hG => ?_⟩
  have hG : pm_Rules (RX10, 3, 122, cX10_good, -1, (fun _ => 0), false, (some .int), po_X10_good [.inr (.inr (0, 0))] 122 s0) G := hG
  show G 0 [some (.inr (.inr (0, 0)))] [] 122 s0
  have B0 := pb_3_0 R0
  have B1 := pb_3_1 R0
  have B2 := pb_3_2 R0
  have B3 := pb_3_3 R0
  refine px_aload_n hG dX10_good_0 rfl ?_
  refine gr_0_0 hG dX10_good_1 fl_X10_13 R0 ?_
  refine jv0 hG dX10_good_4 ct_X5_allIn lk_X10_152 ⟨rfl, rfl⟩ (by decide) ⟨Nat.le_of_ble_eq_true rfl, Nat.le_of_ble_eq_true rfl, Nat.le_of_ble_eq_true rfl⟩ (Nat.le_of_ble_eq_true rfl) ⟨rfl, rfl, R0⟩ (fun r1 t2 pr1 => ?_)
  obtain ⟨x3, rfl, rfl, br1⟩ := pr1 rfl
  show G 7 [some (.inr (.inr (0, 0)))] [.inl x3] 122 s0
  refine px_if_eq hG dX10_good_7 (tgt := 14) (by decide) ⟨by omega, by omega⟩ (fun c4 => ?_) (fun c4 => ?_)
  · refine px_iconst hG dX10_good_14 ?_
    exact px_iret (st := []) hG dX10_good_15 rfl rfl (fun _ => by exact ⟨_, rfl, rfl⟩)
  · refine px_iconst hG dX10_good_10 ?_
    refine px_goto hG dX10_good_11 (tgt := 15) (by decide) ?_
    exact px_iret (st := []) hG dX10_good_15 rfl rfl (fun _ => by exact ⟨_, rfl, rfl⟩))
def pre_X10_ways (as : List pm_V) (n : Nat) (σ : pm_H) : Prop := as = [.inr (.inr (0, 0))] ∧ n = 122 ∧ pm_Rng σ ∧ ((σ 3 0 3 ≤ σ 3 0 1 ∧ (σ 3 0 0 = 2 → 0 ≤ σ 3 0 2 ∧ σ 3 0 2 ≤ 9)))
def po_X10_ways (as : List pm_V) (_ : Nat) (σ : pm_H) (r : Option pm_V) (τ : pm_H) : Prop := as = [.inr (.inr (0, 0))] → ∃ v : Int, r = some (.inl v) ∧ pm_Rng τ ∧ pm_Fr [(10, none)] σ τ ∧ ((τ 3 0 3 ≤ τ 3 0 1 ∧ (τ 3 0 0 = 2 → 0 ≤ τ 3 0 2 ∧ τ 3 0 2 ≤ 9)))
set_option maxRecDepth 20000 in
set_option maxHeartbeats 4000000 in
theorem ct_X10_ways : pm_Ct yX10_ways cX10_ways 1 (some .int) 4 0 pre_X10_ways po_X10_ways := pm_sound (ini := false) (by decide +kernel) pk_X10_ways (fun h => absurd h (by decide)) (by
  rintro as n s0 ⟨rfl, rfl, R0, hpre⟩
  refine ⟨by decide, Nat.le_of_ble_eq_true rfl, fun G hG => ?_⟩
  have hG : pm_Rules (RX10, 4, 122, cX10_ways, -1, (fun _ => 0), false, (some .int), po_X10_ways [.inr (.inr (0, 0))] 122 s0) G := hG
  show G 0 [some (.inr (.inr (0, 0)))] [] 122 s0
  have B0 := pb_3_0 R0
  have B1 := pb_3_1 R0
  have B2 := pb_3_2 R0
  have B3 := pb_3_3 R0
  refine px_aload_n hG dX10_ways_0 rfl ?_
  refine gr_0_0 hG dX10_ways_1 fl_X10_13 R0 ?_
  refine jv0 hG dX10_ways_4 ct_X5_hasFewRows lk_X10_156 ⟨rfl, rfl⟩ (by decide) ⟨Nat.le_of_ble_eq_true rfl, Nat.le_of_ble_eq_true rfl, Nat.le_of_ble_eq_true rfl⟩ (Nat.le_of_ble_eq_true rfl) ⟨rfl, rfl, R0⟩ (fun r1 t2 pr1 => ?_)
  obtain ⟨x3, rfl, rfl, br1⟩ := pr1 rfl
  show G 7 [some (.inr (.inr (0, 0)))] [.inl x3] 122 s0
  refine px_if_eq hG dX10_ways_7 (tgt := 24) (by decide) ⟨by omega, by omega⟩ (fun c4 => ?_) (fun c4 => ?_)
  · refine px_bipush hG dX10_ways_24 (by decide) ?_
    exact px_iret (st := []) hG dX10_ways_26 rfl rfl (fun _ => by exact ⟨_, rfl, R0, pm_Fr_rf, by omega⟩)
  · refine px_aload_n hG dX10_ways_10 rfl ?_
    refine gr_0_1 hG dX10_ways_11 fl_X10_22 R0 ?_
    refine px_aload_n hG dX10_ways_14 rfl ?_
    refine gr_0_0 hG dX10_ways_15 fl_X10_13 R0 ?_
    refine jv1 hG dX10_ways_18 ct_X2_goodRows lk_X10_159 ⟨rfl, rfl⟩ (by decide) ⟨Nat.le_of_ble_eq_true rfl, Nat.le_of_ble_eq_true rfl, Nat.le_of_ble_eq_true rfl⟩ (Nat.le_of_ble_eq_true rfl) ⟨rfl, rfl, R0, by omega⟩ (fun r5 t7 pr5 => ?_)
    obtain ⟨x8, rfl, Rt7, Ft7⟩ := pr5 rfl
    have Ff9 := pm_Fr_mono Ft7 (M := [(10, none)]) rfl
    have jj10 := Ft7 3 0 0 rfl
    have jj11 := Ft7 3 0 1 rfl
    have jj12 := Ft7 3 0 2 rfl
    have jj13 := Ft7 3 0 3 rfl
    show G 21 [some (.inr (.inr (0, 0)))] [.inl x8] 122 t7
    refine px_goto hG dX10_ways_21 (tgt := 26) (by decide) ?_
    have jj14 := Ff9 3 0 0 rfl
    have jj15 := Ff9 3 0 1 rfl
    have jj16 := Ff9 3 0 2 rfl
    have jj17 := Ff9 3 0 3 rfl
    exact px_iret (st := []) hG dX10_ways_26 rfl rfl (fun _ => by exact ⟨_, rfl, Rt7, Ff9, by omega⟩))
def pre_X10_rows (as : List pm_V) (n : Nat) (σ : pm_H) : Prop := ∃ aa : Int, as = [.inr (.inr (0, 0)), .inl aa] ∧ n = 122 ∧ pm_Rng σ ∧ (pm_in aa ∧ (σ 3 0 3 ≤ σ 3 0 1 ∧ (σ 3 0 0 = 2 → 0 ≤ σ 3 0 2 ∧ σ 3 0 2 ≤ 9)))
def po_X10_rows (as : List pm_V) (_ : Nat) (σ : pm_H) (r : Option pm_V) (τ : pm_H) : Prop := ∀ aa : Int, as = [.inr (.inr (0, 0)), .inl aa] → ∃ v : Int, r = some (.inr (.inl v)) ∧ σ = τ
set_option maxRecDepth 20000 in
set_option maxHeartbeats 4000000 in
theorem ct_X10_rows : pm_Ct yX10_rows cX10_rows 2 (some .long) 2 0 pre_X10_rows po_X10_rows := pm_sound (ini := false) (by decide +kernel) pk_X10_rows (fun h => absurd h (by decide)) (by
  rintro as n s0 ⟨aa, rfl, rfl, R0, hpre⟩
  refine ⟨by decide, Nat.le_of_ble_eq_true rfl, fun G hG => ?_⟩
  have hG : pm_Rules (RX10, 2, 122, cX10_rows, -1, (fun _ => 0), false, (some .long), po_X10_rows [.inr (.inr (0, 0)), .inl aa] 122 s0) G := hG
  show G 0 [some (.inr (.inr (0, 0))), some (.inl aa)] [] 122 s0
  have B0 := pb_3_0 R0
  have B1 := pb_3_1 R0
  have B2 := pb_3_2 R0
  have B3 := pb_3_3 R0
  refine px_aload_n hG dX10_rows_0 rfl ?_
  refine px_iload_n hG dX10_rows_1 rfl ?_
  refine jv1 hG dX10_rows_2 ct_X10_isRowSize lk_X10_163 ⟨rfl, rfl⟩ (by decide) ⟨Nat.le_of_ble_eq_true rfl, Nat.le_of_ble_eq_true rfl, Nat.le_of_ble_eq_true rfl⟩ (Nat.le_of_ble_eq_true rfl) ⟨aa, rfl, rfl, R0, by omega⟩ (fun r1 t2 pr1 => ?_)
  obtain ⟨x3, rfl, rfl, br1⟩ := pr1 _ rfl
  show G 5 [some (.inr (.inr (0, 0))), some (.inl aa)] [.inl x3] 122 s0
  refine px_if_eq hG dX10_rows_5 (tgt := 26) (by decide) ⟨by omega, by omega⟩ (fun c4 => ?_) (fun c4 => ?_)
  · refine px_ldc2 hG dX10_rows_26 cn_X10_170 ?_
    show G 29 [some (.inr (.inr (0, 0))), some (.inl aa)] [.inr (.inl (-1))] 122 s0
    exact px_lret (st := []) hG dX10_rows_29 rfl rfl (fun aa_1 ee => by cases ee; exact ⟨_, rfl, rfl⟩)
  · refine px_aload_n hG dX10_rows_8 rfl ?_
    refine gr_0_2 hG dX10_rows_9 fl_X10_31 R0 ?_
    refine px_aload_n hG dX10_rows_12 rfl ?_
    refine gr_0_0 hG dX10_rows_13 fl_X10_13 R0 ?_
    refine gi_3_1 hG dX10_rows_16 fl_X10_93 R0 (fun x5 ex5 lx5 ux5 => ?_)
    refine px_iload_n hG dX10_rows_19 rfl ?_
    refine jv2 hG dX10_rows_20 ct_X0_howMany lk_X10_166 ⟨rfl, rfl⟩ (by decide) ⟨Nat.le_of_ble_eq_true rfl, Nat.le_of_ble_eq_true rfl, Nat.le_of_ble_eq_true rfl⟩ (Nat.le_of_ble_eq_true rfl) ⟨x5, aa, rfl, rfl, R0, by omega⟩ (fun r6 t7 pr6 => ?_)
    obtain ⟨z8, rfl, rfl⟩ := pr6 _ _ rfl
    show G 23 [some (.inr (.inr (0, 0))), some (.inl aa)] [.inr (.inl z8)] 122 s0
    refine px_goto hG dX10_rows_23 (tgt := 29) (by decide) ?_
    exact px_lret (st := []) hG dX10_rows_29 rfl rfl (fun aa_1 ee => by cases ee; exact ⟨_, rfl, rfl⟩))
def pre_X10_rank (as : List pm_V) (n : Nat) (σ : pm_H) : Prop := as = [.inr (.inr (0, 0))] ∧ n = 122 ∧ pm_Rng σ ∧ ((σ 3 0 3 ≤ σ 3 0 1 ∧ (σ 3 0 0 = 2 → 0 ≤ σ 3 0 2 ∧ σ 3 0 2 ≤ 9)))
def po_X10_rank (as : List pm_V) (_ : Nat) (σ : pm_H) (r : Option pm_V) (τ : pm_H) : Prop := as = [.inr (.inr (0, 0))] → ∃ v : Int, r = some (.inr (.inl v)) ∧ pm_Rng τ ∧ pm_Fr [(12, none), (13, none)] σ τ ∧ ((τ 3 0 3 ≤ τ 3 0 1 ∧ (τ 3 0 0 = 2 → 0 ≤ τ 3 0 2 ∧ τ 3 0 2 ≤ 9)))
set_option maxRecDepth 20000 in
set_option maxHeartbeats 4000000 in
theorem ct_X10_rank : pm_Ct yX10_rank cX10_rank 1 (some .long) 5 0 pre_X10_rank po_X10_rank := pm_sound (ini := false) (by decide +kernel) pk_X10_rank (fun h => absurd h (by decide)) (by
  rintro as n s0 ⟨rfl, rfl, R0, hpre⟩
  refine ⟨by decide, Nat.le_of_ble_eq_true rfl, fun G hG => ?_⟩
  have hG : pm_Rules (RX10, 5, 122, cX10_rank, -1, (fun _ => 0), false, (some .long), po_X10_rank [.inr (.inr (0, 0))] 122 s0) G := hG
  show G 0 [some (.inr (.inr (0, 0)))] [] 122 s0
  have B0 := pb_3_0 R0
  have B1 := pb_3_1 R0
  have B2 := pb_3_2 R0
  have B3 := pb_3_3 R0
  refine px_aload_n hG dX10_rank_0 rfl ?_
  refine jv0 hG dX10_rank_1 ct_X10_isPlainGood lk_X10_172 ⟨rfl, rfl⟩ (by decide) ⟨Nat.le_of_ble_eq_true rfl, Nat.le_of_ble_eq_true rfl, Nat.le_of_ble_eq_true rfl⟩ (Nat.le_of_ble_eq_true rfl) ⟨rfl, rfl, R0, by omega⟩ (fun r1 t2 pr1 => ?_)
  obtain ⟨x3, rfl, rfl, br1⟩ := pr1 rfl
  show G 4 [some (.inr (.inr (0, 0)))] [.inl x3] 122 s0
  refine px_if_eq hG dX10_rank_4 (tgt := 38) (by decide) ⟨by omega, by omega⟩ (fun c4 => ?_) (fun c4 => ?_)
  · refine px_ldc2 hG dX10_rank_38 cn_X10_179 ?_
    show G 41 [some (.inr (.inr (0, 0)))] [.inr (.inl (-2))] 122 s0
    exact px_lret (st := []) hG dX10_rank_41 rfl rfl (fun _ => by exact ⟨_, rfl, R0, pm_Fr_rf, by omega⟩)
  · refine px_aload_n hG dX10_rank_7 rfl ?_
    refine gr_0_2 hG dX10_rank_8 fl_X10_31 R0 ?_
    refine px_aload_n hG dX10_rank_11 rfl ?_
    refine gr_0_0 hG dX10_rank_12 fl_X10_13 R0 ?_
    refine gr_3_5 hG dX10_rank_15 fl_X10_106 R0 ?_
    refine px_aload_n hG dX10_rank_18 rfl ?_
    refine gr_0_0 hG dX10_rank_19 fl_X10_13 R0 ?_
    refine gi_3_1 hG dX10_rank_22 fl_X10_93 R0 (fun x5 ex5 lx5 ux5 => ?_)
    refine px_aload_n hG dX10_rank_25 rfl ?_
    refine gr_0_0 hG dX10_rank_26 fl_X10_13 R0 ?_
    refine gi_3_3 hG dX10_rank_29 fl_X10_89 R0 (fun x6 ex6 lx6 ux6 => ?_)
    refine jv3 hG dX10_rank_32 ct_X0_numberOf lk_X10_175 ⟨rfl, rfl⟩ (by decide) ⟨Nat.le_of_ble_eq_true rfl, Nat.le_of_ble_eq_true rfl, Nat.le_of_ble_eq_true rfl⟩ (Nat.le_of_ble_eq_true rfl) ⟨x5, x6, rfl, rfl, R0, by omega⟩ (fun r7 t9 pr7 => ?_)
    obtain ⟨z10, rfl, Rt9, Ft9⟩ := pr7 _ _ rfl
    have Ff11 := pm_Fr_mono Ft9 (M := [(12, none), (13, none)]) rfl
    have jj12 := Ft9 3 0 0 rfl
    have jj13 := Ft9 3 0 1 rfl
    have jj14 := Ft9 3 0 2 rfl
    have jj15 := Ft9 3 0 3 rfl
    have k16 : t9 3 0 1 = x5 := (Ft9 3 0 1 rfl).trans ex5
    have k17 : t9 3 0 3 = x6 := (Ft9 3 0 3 rfl).trans ex6
    show G 35 [some (.inr (.inr (0, 0)))] [.inr (.inl z10)] 122 t9
    refine px_goto hG dX10_rank_35 (tgt := 41) (by decide) ?_
    have jj18 := Ff11 3 0 0 rfl
    have jj19 := Ff11 3 0 1 rfl
    have jj20 := Ff11 3 0 2 rfl
    have jj21 := Ff11 3 0 3 rfl
    exact px_lret (st := []) hG dX10_rank_41 rfl rfl (fun _ => by exact ⟨_, rfl, Rt9, Ff11, by omega⟩))
def pre_X10_unrank (as : List pm_V) (n : Nat) (σ : pm_H) : Prop := ∃ aa ab : Int, as = [.inr (.inr (0, 0)), .inl aa, .inr (.inl ab)] ∧ n = 122 ∧ pm_Rng σ ∧ (pm_in aa ∧ pm_inl ab ∧ (σ 3 0 3 ≤ σ 3 0 1 ∧ (σ 3 0 0 = 2 → 0 ≤ σ 3 0 2 ∧ σ 3 0 2 ≤ 9)))
def po_X10_unrank (as : List pm_V) (_ : Nat) (σ : pm_H) (r : Option pm_V) (τ : pm_H) : Prop := ∀ aa ab : Int, as = [.inr (.inr (0, 0)), .inl aa, .inr (.inl ab)] → ∃ v : Int, r = some (.inl v) ∧ pm_Rng τ ∧ pm_Fr [(3, some 3), (3, some 4), (4, none), (5, none), (6, none), (7, none), (12, none), (13, none), (39, none)] σ τ ∧ ((τ 3 0 3 ≤ τ 3 0 1 ∧ (τ 3 0 0 = 2 → 0 ≤ τ 3 0 2 ∧ τ 3 0 2 ≤ 9)))
set_option maxRecDepth 20000 in
set_option maxHeartbeats 4000000 in
theorem ct_X10_unrank : pm_Ct yX10_unrank cX10_unrank 4 (some .int) 5 0 pre_X10_unrank po_X10_unrank := pm_sound (ini := false) (by decide +kernel) pk_X10_unrank (fun h => absurd h (by decide)) (by
  rintro as n s0 ⟨aa, ab, rfl, rfl, R0, hpre⟩
  refine ⟨by decide, Nat.le_of_ble_eq_true rfl, fun G hG => ?_⟩
  have hG : pm_Rules (RX10, 5, 122, cX10_unrank, -1, (fun _ => 0), false, (some .int), po_X10_unrank [.inr (.inr (0, 0)), .inl aa, .inr (.inl ab)] 122 s0) G := hG
  show G 0 [some (.inr (.inr (0, 0))), some (.inl aa), some (.inr (.inl ab)), none] [] 122 s0
  have B0 := pb_3_0 R0
  have B1 := pb_3_1 R0
  have B2 := pb_3_2 R0
  have B3 := pb_3_3 R0
  refine px_aload_n hG dX10_unrank_0 rfl ?_
  refine px_iload_n hG dX10_unrank_1 rfl ?_
  refine jv1 hG dX10_unrank_2 ct_X10_isRowSize lk_X10_163 ⟨rfl, rfl⟩ (by decide) ⟨Nat.le_of_ble_eq_true rfl, Nat.le_of_ble_eq_true rfl, Nat.le_of_ble_eq_true rfl⟩ (Nat.le_of_ble_eq_true rfl) ⟨aa, rfl, rfl, R0, by omega⟩ (fun r1 t2 pr1 => ?_)
  obtain ⟨x3, rfl, rfl, br1⟩ := pr1 _ rfl
  show G 5 [some (.inr (.inr (0, 0))), some (.inl aa), some (.inr (.inl ab)), none] [.inl x3] 122 s0
  refine px_if_eq hG dX10_unrank_5 (tgt := 34) (by decide) ⟨by omega, by omega⟩ (fun c4 => ?_) (fun c4 => ?_)
  · refine px_iconst hG dX10_unrank_34 ?_
    exact px_iret (st := []) hG dX10_unrank_35 rfl rfl (fun aa_1 ab_1 ee => by cases ee; exact ⟨_, rfl, R0, pm_Fr_rf, by omega⟩)
  · refine px_lload_n hG dX10_unrank_8 rfl ?_
    refine px_lconst hG dX10_unrank_9 ?_
    show G 10 [some (.inr (.inr (0, 0))), some (.inl aa), some (.inr (.inl ab)), none] [.inr (.inl 0), .inr (.inl ab)] 122 s0
    refine px_lcmpA hG dX10_unrank_10 (fun x5 bx5 cx5 => ?_)
    refine px_if_lt hG dX10_unrank_11 (tgt := 34) (by decide) ⟨by omega, by omega⟩ (fun c6 => ?_) (fun c6 => ?_)
    · refine px_iconst hG dX10_unrank_34 ?_
      exact px_iret (st := []) hG dX10_unrank_35 rfl rfl (fun aa_1 ab_1 ee => by cases ee; exact ⟨_, rfl, R0, pm_Fr_rf, by omega⟩)
    · refine px_lload_n hG dX10_unrank_14 rfl ?_
      refine px_aload_n hG dX10_unrank_15 rfl ?_
      refine gr_0_2 hG dX10_unrank_16 fl_X10_31 R0 ?_
      refine px_aload_n hG dX10_unrank_19 rfl ?_
      refine gr_0_0 hG dX10_unrank_20 fl_X10_13 R0 ?_
      refine gi_3_1 hG dX10_unrank_23 fl_X10_93 R0 (fun x7 ex7 lx7 ux7 => ?_)
      refine px_iload_n hG dX10_unrank_26 rfl ?_
      refine jv2 hG dX10_unrank_27 ct_X0_howMany lk_X10_166 ⟨rfl, rfl⟩ (by decide) ⟨Nat.le_of_ble_eq_true rfl, Nat.le_of_ble_eq_true rfl, Nat.le_of_ble_eq_true rfl⟩ (Nat.le_of_ble_eq_true rfl) ⟨x7, aa, rfl, rfl, R0, by omega⟩ (fun r8 t9 pr8 => ?_)
      obtain ⟨z10, rfl, rfl⟩ := pr8 _ _ rfl
      show G 30 [some (.inr (.inr (0, 0))), some (.inl aa), some (.inr (.inl ab)), none] [.inr (.inl z10), .inr (.inl ab)] 122 s0
      refine px_lcmpA hG dX10_unrank_30 (fun x11 bx11 cx11 => ?_)
      refine px_if_lt hG dX10_unrank_31 (tgt := 36) (by decide) ⟨by omega, by omega⟩ (fun c12 => ?_) (fun c12 => ?_)
      · refine px_aload_n hG dX10_unrank_36 rfl ?_
        refine gr_0_0 hG dX10_unrank_37 fl_X10_13 R0 ?_
        refine gi_3_0 hG dX10_unrank_40 fl_X10_181 R0 (fun x13 ex13 lx13 ux13 => ?_)
        refine px_if_eq hG dX10_unrank_43 (tgt := 49) (by decide) ⟨by omega, by omega⟩ (fun c14 => ?_) (fun c14 => ?_)
        · refine px_aload_n hG dX10_unrank_49 rfl ?_
          refine gr_0_2 hG dX10_unrank_50 fl_X10_31 R0 ?_
          refine px_aload_n hG dX10_unrank_53 rfl ?_
          refine gr_0_9 hG dX10_unrank_54 fl_X10_77 R0 ?_
          refine px_aload_n hG dX10_unrank_57 rfl ?_
          refine gr_0_0 hG dX10_unrank_58 fl_X10_13 R0 ?_
          refine gi_3_1 hG dX10_unrank_61 fl_X10_93 R0 (fun x15 ex15 lx15 ux15 => ?_)
          refine px_iload_n hG dX10_unrank_64 rfl ?_
          refine px_lload_n hG dX10_unrank_65 rfl ?_
          refine jv4 hG dX10_unrank_66 ct_X0_fillRow lk_X10_184 ⟨rfl, rfl⟩ (by decide) ⟨Nat.le_of_ble_eq_true rfl, Nat.le_of_ble_eq_true rfl, Nat.le_of_ble_eq_true rfl⟩ (Nat.le_of_ble_eq_true rfl) ⟨x15, aa, ab, rfl, rfl, R0, by omega⟩ (fun r16 t18 pr16 => ?_)
          obtain ⟨rfl, Rt18, Ft18⟩ := pr16 _ _ _ rfl
          have Ff20 := pm_Fr_mono Ft18 (M := [(3, some 3), (3, some 4), (4, none), (5, none), (6, none), (7, none), (12, none), (13, none), (39, none)]) rfl
          have jj21 := Ft18 3 0 0 rfl
          have jj22 := Ft18 3 0 1 rfl
          have jj23 := Ft18 3 0 2 rfl
          have jj24 := Ft18 3 0 3 rfl
          have k25 : t18 3 0 1 = x7 := (Ft18 3 0 1 rfl).trans ex7
          have k26 : t18 3 0 0 = x13 := (Ft18 3 0 0 rfl).trans ex13
          show G 69 [some (.inr (.inr (0, 0))), some (.inl aa), some (.inr (.inl ab)), none] [] 122 t18
          refine px_aload_n hG dX10_unrank_69 rfl ?_
          refine gr_0_0 hG dX10_unrank_70 fl_X10_13 Rt18 ?_
          refine px_aload_n hG dX10_unrank_73 rfl ?_
          refine gr_0_9 hG dX10_unrank_74 fl_X10_77 Rt18 ?_
          refine px_iload_n hG dX10_unrank_77 rfl ?_
          refine jv2 hG dX10_unrank_78 ct_X5_take lk_X10_188 ⟨rfl, rfl⟩ (by decide) ⟨Nat.le_of_ble_eq_true rfl, Nat.le_of_ble_eq_true rfl, Nat.le_of_ble_eq_true rfl⟩ (Nat.le_of_ble_eq_true rfl) ⟨aa, rfl, rfl, Rt18, by omega⟩ (fun r27 t29 pr27 => ?_)
          obtain ⟨rfl, Rt29, Ft29, br27⟩ := pr27 _ rfl
          have Ff31 := pm_Fr_tr Ff20 Ft29 (M := [(3, some 3), (3, some 4), (4, none), (5, none), (6, none), (7, none), (12, none), (13, none), (39, none)]) rfl
          have jj32 := Ft29 3 0 0 rfl
          have jj33 := Ft29 3 0 1 rfl
          have jj34 := Ft29 3 0 2 rfl
          have k35 : t29 3 0 1 = x7 := (Ft29 3 0 1 rfl).trans k25
          have k36 : t29 3 0 0 = x13 := (Ft29 3 0 0 rfl).trans k26
          show G 81 [some (.inr (.inr (0, 0))), some (.inl aa), some (.inr (.inl ab)), none] [] 122 t29
          refine px_iload_n hG dX10_unrank_81 rfl ?_
          have jj37 := Ff31 3 0 0 rfl
          have jj38 := Ff31 3 0 1 rfl
          have jj39 := Ff31 3 0 2 rfl
          exact px_iret (st := []) hG dX10_unrank_82 rfl rfl (fun aa_1 ab_1 ee => by cases ee; exact ⟨_, rfl, Rt29, Ff31, by omega⟩)
        · refine px_bipush hG dX10_unrank_46 (by decide) ?_
          exact px_iret (st := []) hG dX10_unrank_48 rfl rfl (fun aa_1 ab_1 ee => by cases ee; exact ⟨_, rfl, R0, pm_Fr_rf, by omega⟩)
      · refine px_iconst hG dX10_unrank_34 ?_
        exact px_iret (st := []) hG dX10_unrank_35 rfl rfl (fun aa_1 ab_1 ee => by cases ee; exact ⟨_, rfl, R0, pm_Fr_rf, by omega⟩))
def pre_X10_next (as : List pm_V) (n : Nat) (σ : pm_H) : Prop := as = [.inr (.inr (0, 0))] ∧ n = 122 ∧ pm_Rng σ ∧ ((σ 3 0 3 ≤ σ 3 0 1 ∧ (σ 3 0 0 = 2 → 0 ≤ σ 3 0 2 ∧ σ 3 0 2 ≤ 9)))
def po_X10_next (as : List pm_V) (_ : Nat) (σ : pm_H) (r : Option pm_V) (τ : pm_H) : Prop := as = [.inr (.inr (0, 0))] → ∃ v : Int, r = some (.inl v) ∧ pm_Rng τ ∧ pm_Fr [(3, some 4), (4, none), (6, none), (7, none)] σ τ ∧ ((τ 3 0 3 ≤ τ 3 0 1 ∧ (τ 3 0 0 = 2 → 0 ≤ τ 3 0 2 ∧ τ 3 0 2 ≤ 9)))
set_option maxRecDepth 20000 in
set_option maxHeartbeats 4000000 in
theorem ct_X10_next : pm_Ct yX10_next cX10_next 1 (some .int) 4 0 pre_X10_next po_X10_next := pm_sound (ini := false) (by decide +kernel) pk_X10_next (fun h => absurd h (by decide)) (by
  rintro as n s0 ⟨rfl, rfl, R0, hpre⟩
  refine ⟨by decide, Nat.le_of_ble_eq_true rfl, fun G hG => ?_⟩
  have hG : pm_Rules (RX10, 4, 122, cX10_next, -1, (fun _ => 0), false, (some .int), po_X10_next [.inr (.inr (0, 0))] 122 s0) G := hG
  show G 0 [some (.inr (.inr (0, 0)))] [] 122 s0
  have B0 := pb_3_0 R0
  have B1 := pb_3_1 R0
  have B2 := pb_3_2 R0
  have B3 := pb_3_3 R0
  refine px_aload_n hG dX10_next_0 rfl ?_
  refine jv0 hG dX10_next_1 ct_X10_isPlainGood lk_X10_172 ⟨rfl, rfl⟩ (by decide) ⟨Nat.le_of_ble_eq_true rfl, Nat.le_of_ble_eq_true rfl, Nat.le_of_ble_eq_true rfl⟩ (Nat.le_of_ble_eq_true rfl) ⟨rfl, rfl, R0, by omega⟩ (fun r1 t2 pr1 => ?_)
  obtain ⟨x3, rfl, rfl, br1⟩ := pr1 rfl
  show G 4 [some (.inr (.inr (0, 0)))] [.inl x3] 122 s0
  refine px_if_ne hG dX10_next_4 (tgt := 10) (by decide) ⟨by omega, by omega⟩ (fun c4 => ?_) (fun c4 => ?_)
  · refine px_aload_n hG dX10_next_10 rfl ?_
    refine gr_0_2 hG dX10_next_11 fl_X10_31 R0 ?_
    refine px_aload_n hG dX10_next_14 rfl ?_
    refine gr_0_0 hG dX10_next_15 fl_X10_13 R0 ?_
    refine gr_3_5 hG dX10_next_18 fl_X10_106 R0 ?_
    refine px_aload_n hG dX10_next_21 rfl ?_
    refine gr_0_0 hG dX10_next_22 fl_X10_13 R0 ?_
    refine gi_3_1 hG dX10_next_25 fl_X10_93 R0 (fun x5 ex5 lx5 ux5 => ?_)
    refine px_aload_n hG dX10_next_28 rfl ?_
    refine gr_0_0 hG dX10_next_29 fl_X10_13 R0 ?_
    refine gi_3_3 hG dX10_next_32 fl_X10_89 R0 (fun x6 ex6 lx6 ux6 => ?_)
    refine jv3 hG dX10_next_35 ct_X0_stepOn lk_X10_192 ⟨rfl, rfl⟩ (by decide) ⟨Nat.le_of_ble_eq_true rfl, Nat.le_of_ble_eq_true rfl, Nat.le_of_ble_eq_true rfl⟩ (Nat.le_of_ble_eq_true rfl) ⟨x5, x6, rfl, rfl, R0, by omega⟩ (fun r7 t9 pr7 => ?_)
    obtain ⟨x10, rfl, Rt9, Ft9, br7⟩ := pr7 _ _ rfl
    have Ff11 := pm_Fr_mono Ft9 (M := [(3, some 4), (4, none), (6, none), (7, none)]) rfl
    have jj12 := Ft9 3 0 0 rfl
    have jj13 := Ft9 3 0 1 rfl
    have jj14 := Ft9 3 0 2 rfl
    have jj15 := Ft9 3 0 3 rfl
    have k16 : t9 3 0 1 = x5 := (Ft9 3 0 1 rfl).trans ex5
    have k17 : t9 3 0 3 = x6 := (Ft9 3 0 3 rfl).trans ex6
    show G 38 [some (.inr (.inr (0, 0)))] [.inl x10] 122 t9
    refine px_if_ne hG dX10_next_38 (tgt := 44) (by decide) ⟨by omega, by omega⟩ (fun c18 => ?_) (fun c18 => ?_)
    · refine px_aload_n hG dX10_next_44 rfl ?_
      refine gr_0_0 hG dX10_next_45 fl_X10_13 Rt9 ?_
      refine jv0 hG dX10_next_48 ct_X5_settle lk_X10_100 ⟨rfl, rfl⟩ (by decide) ⟨Nat.le_of_ble_eq_true rfl, Nat.le_of_ble_eq_true rfl, Nat.le_of_ble_eq_true rfl⟩ (Nat.le_of_ble_eq_true rfl) ⟨rfl, rfl, Rt9, by omega⟩ (fun r19 t21 pr19 => ?_)
      obtain ⟨rfl, Rt21, Ft21⟩ := pr19 rfl
      have Ff23 := pm_Fr_tr Ff11 Ft21 (M := [(3, some 4), (4, none), (6, none), (7, none)]) rfl
      have jj24 := Ft21 3 0 0 rfl
      have jj25 := Ft21 3 0 1 rfl
      have jj26 := Ft21 3 0 2 rfl
      have jj27 := Ft21 3 0 3 rfl
      have k28 : t21 3 0 1 = x5 := (Ft21 3 0 1 rfl).trans k16
      have k29 : t21 3 0 3 = x6 := (Ft21 3 0 3 rfl).trans k17
      show G 51 [some (.inr (.inr (0, 0)))] [] 122 t21
      refine px_iconst hG dX10_next_51 ?_
      have jj30 := Ff23 3 0 0 rfl
      have jj31 := Ff23 3 0 1 rfl
      have jj32 := Ff23 3 0 2 rfl
      have jj33 := Ff23 3 0 3 rfl
      exact px_iret (st := []) hG dX10_next_52 rfl rfl (fun _ => by exact ⟨_, rfl, Rt21, Ff23, by omega⟩)
    · refine px_bipush hG dX10_next_41 (by decide) ?_
      have jj34 := Ff11 3 0 0 rfl
      have jj35 := Ff11 3 0 1 rfl
      have jj36 := Ff11 3 0 2 rfl
      have jj37 := Ff11 3 0 3 rfl
      exact px_iret (st := []) hG dX10_next_43 rfl rfl (fun _ => by exact ⟨_, rfl, Rt9, Ff11, by omega⟩)
  · refine px_bipush hG dX10_next_7 (by decide) ?_
    exact px_iret (st := []) hG dX10_next_9 rfl rfl (fun _ => by exact ⟨_, rfl, R0, pm_Fr_rf, by omega⟩))
def pre_X10_like (as : List pm_V) (n : Nat) (σ : pm_H) : Prop := as = [.inr (.inr (0, 0))] ∧ n = 122 ∧ pm_Rng σ ∧ ((σ 3 0 3 ≤ σ 3 0 1 ∧ (σ 3 0 0 = 2 → 0 ≤ σ 3 0 2 ∧ σ 3 0 2 ≤ 9)))
def po_X10_like (as : List pm_V) (_ : Nat) (σ : pm_H) (r : Option pm_V) (τ : pm_H) : Prop := as = [.inr (.inr (0, 0))] → ∃ v : Int, r = some (.inr (.inl v)) ∧ σ = τ
set_option maxRecDepth 20000 in
set_option maxHeartbeats 4000000 in
theorem ct_X10_like : pm_Ct yX10_like cX10_like 1 (some .long) 4 0 pre_X10_like po_X10_like := pm_sound (ini := false) (by decide +kernel) pk_X10_like (fun h => absurd h (by decide)) (by
  rintro as n s0 ⟨rfl, rfl, R0, hpre⟩
  refine ⟨by decide, Nat.le_of_ble_eq_true rfl, fun G hG => ?_⟩
  have hG : pm_Rules (RX10, 4, 122, cX10_like, -1, (fun _ => 0), false, (some .long), po_X10_like [.inr (.inr (0, 0))] 122 s0) G := hG
  show G 0 [some (.inr (.inr (0, 0)))] [] 122 s0
  have B0 := pb_3_0 R0
  have B1 := pb_3_1 R0
  have B2 := pb_3_2 R0
  have B3 := pb_3_3 R0
  refine px_aload_n hG dX10_like_0 rfl ?_
  refine jv0 hG dX10_like_1 ct_X10_isPlainGood lk_X10_172 ⟨rfl, rfl⟩ (by decide) ⟨Nat.le_of_ble_eq_true rfl, Nat.le_of_ble_eq_true rfl, Nat.le_of_ble_eq_true rfl⟩ (Nat.le_of_ble_eq_true rfl) ⟨rfl, rfl, R0, by omega⟩ (fun r1 t2 pr1 => ?_)
  obtain ⟨x3, rfl, rfl, br1⟩ := pr1 rfl
  show G 4 [some (.inr (.inr (0, 0)))] [.inl x3] 122 s0
  refine px_if_eq hG dX10_like_4 (tgt := 17) (by decide) ⟨by omega, by omega⟩ (fun c4 => ?_) (fun c4 => ?_)
  · refine px_ldc2 hG dX10_like_17 cn_X10_179 ?_
    show G 20 [some (.inr (.inr (0, 0)))] [.inr (.inl (-2))] 122 s0
    exact px_lret (st := []) hG dX10_like_20 rfl rfl (fun _ => by exact ⟨_, rfl, rfl⟩)
  · refine px_aload_n hG dX10_like_7 rfl ?_
    refine gr_0_0 hG dX10_like_8 fl_X10_13 R0 ?_
    refine jv0 hG dX10_like_11 ct_X5_rowsLikeIt lk_X10_196 ⟨rfl, rfl⟩ (by decide) ⟨Nat.le_of_ble_eq_true rfl, Nat.le_of_ble_eq_true rfl, Nat.le_of_ble_eq_true rfl⟩ (Nat.le_of_ble_eq_true rfl) ⟨rfl, rfl, R0⟩ (fun r5 t6 pr5 => ?_)
    obtain ⟨z7, rfl, rfl⟩ := pr5 rfl
    show G 14 [some (.inr (.inr (0, 0)))] [.inr (.inl z7)] 122 s0
    refine px_goto hG dX10_like_14 (tgt := 20) (by decide) ?_
    exact px_lret (st := []) hG dX10_like_20 rfl rfl (fun _ => by exact ⟨_, rfl, rfl⟩))
def pre_X10_orders (as : List pm_V) (n : Nat) (σ : pm_H) : Prop := as = [.inr (.inr (0, 0))] ∧ n = 122 ∧ pm_Rng σ ∧ ((σ 3 0 3 ≤ σ 3 0 1 ∧ (σ 3 0 0 = 2 → 0 ≤ σ 3 0 2 ∧ σ 3 0 2 ≤ 9)))
def po_X10_orders (as : List pm_V) (_ : Nat) (σ : pm_H) (r : Option pm_V) (τ : pm_H) : Prop := as = [.inr (.inr (0, 0))] → ∃ v : Int, r = some (.inr (.inl v)) ∧ σ = τ
set_option maxRecDepth 20000 in
set_option maxHeartbeats 4000000 in
theorem ct_X10_orders : pm_Ct yX10_orders cX10_orders 1 (some .long) 1 0 pre_X10_orders po_X10_orders := pm_sound (ini := false) (by decide +kernel) pk_X10_orders (fun h => absurd h (by decide)) (by
  rintro as n s0 ⟨rfl, rfl, R0, hpre⟩
  refine ⟨by decide, Nat.le_of_ble_eq_true rfl, fun G hG => ?_⟩
  have hG : pm_Rules (RX10, 1, 122, cX10_orders, -1, (fun _ => 0), false, (some .long), po_X10_orders [.inr (.inr (0, 0))] 122 s0) G := hG
  show G 0 [some (.inr (.inr (0, 0)))] [] 122 s0
  have B0 := pb_3_0 R0
  have B1 := pb_3_1 R0
  have B2 := pb_3_2 R0
  have B3 := pb_3_3 R0
  refine px_aload_n hG dX10_orders_0 rfl ?_
  refine gr_0_0 hG dX10_orders_1 fl_X10_13 R0 ?_
  refine gi_3_0 hG dX10_orders_4 fl_X10_181 R0 (fun x1 ex1 lx1 ux1 => ?_)
  refine px_if_ne hG dX10_orders_7 (tgt := 20) (by decide) ⟨by omega, by omega⟩ (fun c2 => ?_) (fun c2 => ?_)
  · refine px_ldc2 hG dX10_orders_20 cn_X10_179 ?_
    show G 23 [some (.inr (.inr (0, 0)))] [.inr (.inl (-2))] 122 s0
    exact px_lret (st := []) hG dX10_orders_23 rfl rfl (fun _ => by exact ⟨_, rfl, rfl⟩)
  · refine px_aload_n hG dX10_orders_10 rfl ?_
    refine gr_0_0 hG dX10_orders_11 fl_X10_13 R0 ?_
    refine jv0 hG dX10_orders_14 ct_X5_ordersOfWishes lk_X10_200 ⟨rfl, rfl⟩ (by decide) ⟨Nat.le_of_ble_eq_true rfl, Nat.le_of_ble_eq_true rfl, Nat.le_of_ble_eq_true rfl⟩ (Nat.le_of_ble_eq_true rfl) ⟨rfl, rfl, R0⟩ (fun r3 t4 pr3 => ?_)
    obtain ⟨z5, rfl, rfl⟩ := pr3 rfl
    show G 17 [some (.inr (.inr (0, 0)))] [.inr (.inl z5)] 122 s0
    refine px_goto hG dX10_orders_17 (tgt := 23) (by decide) ?_
    exact px_lret (st := []) hG dX10_orders_23 rfl rfl (fun _ => by exact ⟨_, rfl, rfl⟩))
def pre_X10_rise (as : List pm_V) (n : Nat) (σ : pm_H) : Prop := as = [.inr (.inr (0, 0))] ∧ n = 122 ∧ pm_Rng σ ∧ ((σ 3 0 3 ≤ σ 3 0 1 ∧ (σ 3 0 0 = 2 → 0 ≤ σ 3 0 2 ∧ σ 3 0 2 ≤ 9)))
def po_X10_rise (as : List pm_V) (_ : Nat) (σ : pm_H) (r : Option pm_V) (τ : pm_H) : Prop := as = [.inr (.inr (0, 0))] → ∃ v : Int, r = some (.inl v) ∧ pm_Rng τ ∧ pm_Fr [(3, some 4), (4, none), (6, none), (7, none), (8, none)] σ τ ∧ ((τ 3 0 3 ≤ τ 3 0 1 ∧ (τ 3 0 0 = 2 → 0 ≤ τ 3 0 2 ∧ τ 3 0 2 ≤ 9)))
set_option maxRecDepth 20000 in
set_option maxHeartbeats 4000000 in
theorem ct_X10_rise : pm_Ct yX10_rise cX10_rise 2 (some .int) 3 0 pre_X10_rise po_X10_rise := pm_sound (ini := false) (by decide +kernel) pk_X10_rise (fun h => absurd h (by decide)) (by
  rintro as n s0 ⟨rfl, rfl, R0, hpre⟩
  refine ⟨by decide, Nat.le_of_ble_eq_true rfl, fun G hG => ?_⟩
  have hG : pm_Rules (RX10, 3, 122, cX10_rise, -1, (fun _ => 0), false, (some .int), po_X10_rise [.inr (.inr (0, 0))] 122 s0) G := hG
  show G 0 [some (.inr (.inr (0, 0))), none] [] 122 s0
  have B0 := pb_3_0 R0
  have B1 := pb_3_1 R0
  have B2 := pb_3_2 R0
  have B3 := pb_3_3 R0
  refine px_aload_n hG dX10_rise_0 rfl ?_
  refine gr_0_0 hG dX10_rise_1 fl_X10_13 R0 ?_
  refine jv0 hG dX10_rise_4 ct_X5_sortWishes lk_X10_203 ⟨rfl, rfl⟩ (by decide) ⟨Nat.le_of_ble_eq_true rfl, Nat.le_of_ble_eq_true rfl, Nat.le_of_ble_eq_true rfl⟩ (Nat.le_of_ble_eq_true rfl) ⟨rfl, rfl, R0⟩ (fun r1 t3 pr1 => ?_)
  obtain ⟨x4, rfl, Rt3, Ft3, br1⟩ := pr1 rfl
  have Ff5 := pm_Fr_mono Ft3 (M := [(3, some 4), (4, none), (6, none), (7, none), (8, none)]) rfl
  have jj6 := Ft3 3 0 0 rfl
  have jj7 := Ft3 3 0 1 rfl
  have jj8 := Ft3 3 0 2 rfl
  have jj9 := Ft3 3 0 3 rfl
  show G 7 [some (.inr (.inr (0, 0))), none] [.inl x4] 122 t3
  refine px_istore_n hG dX10_rise_7 (Nat.le_of_ble_eq_true rfl) (L2 := [some (.inr (.inr (0, 0))), some (.inl x4)]) rfl ?_
  refine px_aload_n hG dX10_rise_8 rfl ?_
  refine gr_0_0 hG dX10_rise_9 fl_X10_13 Rt3 ?_
  refine jv0 hG dX10_rise_12 ct_X5_settle lk_X10_100 ⟨rfl, rfl⟩ (by decide) ⟨Nat.le_of_ble_eq_true rfl, Nat.le_of_ble_eq_true rfl, Nat.le_of_ble_eq_true rfl⟩ (Nat.le_of_ble_eq_true rfl) ⟨rfl, rfl, Rt3, by omega⟩ (fun r10 t12 pr10 => ?_)
  obtain ⟨rfl, Rt12, Ft12⟩ := pr10 rfl
  have Ff14 := pm_Fr_tr Ff5 Ft12 (M := [(3, some 4), (4, none), (6, none), (7, none), (8, none)]) rfl
  have jj15 := Ft12 3 0 0 rfl
  have jj16 := Ft12 3 0 1 rfl
  have jj17 := Ft12 3 0 2 rfl
  have jj18 := Ft12 3 0 3 rfl
  show G 15 [some (.inr (.inr (0, 0))), some (.inl x4)] [] 122 t12
  refine px_iload_n hG dX10_rise_15 rfl ?_
  have jj19 := Ff14 3 0 0 rfl
  have jj20 := Ff14 3 0 1 rfl
  have jj21 := Ff14 3 0 2 rfl
  have jj22 := Ff14 3 0 3 rfl
  exact px_iret (st := []) hG dX10_rise_16 rfl rfl (fun _ => by exact ⟨_, rfl, Rt12, Ff14, by omega⟩))
def pre_X10_risings (as : List pm_V) (n : Nat) (σ : pm_H) : Prop := ∃ aa : Int, as = [.inr (.inr (0, 0)), .inl aa] ∧ n = 122 ∧ pm_Rng σ ∧ (pm_in aa ∧ (σ 3 0 3 ≤ σ 3 0 1 ∧ (σ 3 0 0 = 2 → 0 ≤ σ 3 0 2 ∧ σ 3 0 2 ≤ 9)))
def po_X10_risings (as : List pm_V) (_ : Nat) (σ : pm_H) (r : Option pm_V) (τ : pm_H) : Prop := ∀ aa : Int, as = [.inr (.inr (0, 0)), .inl aa] → ∃ v : Int, r = some (.inr (.inl v)) ∧ pm_Rng τ ∧ pm_Fr [(15, none)] σ τ ∧ ((τ 3 0 3 ≤ τ 3 0 1 ∧ (τ 3 0 0 = 2 → 0 ≤ τ 3 0 2 ∧ τ 3 0 2 ≤ 9)))
set_option maxRecDepth 20000 in
set_option maxHeartbeats 4000000 in
theorem ct_X10_risings : pm_Ct yX10_risings cX10_risings 2 (some .long) 2 0 pre_X10_risings po_X10_risings := pm_sound (ini := false) (by decide +kernel) pk_X10_risings (fun h => absurd h (by decide)) (by
  rintro as n s0 ⟨aa, rfl, rfl, R0, hpre⟩
  refine ⟨by decide, Nat.le_of_ble_eq_true rfl, fun G hG => ?_⟩
  have hG : pm_Rules (RX10, 2, 122, cX10_risings, -1, (fun _ => 0), false, (some .long), po_X10_risings [.inr (.inr (0, 0)), .inl aa] 122 s0) G := hG
  show G 0 [some (.inr (.inr (0, 0))), some (.inl aa)] [] 122 s0
  have B0 := pb_3_0 R0
  have B1 := pb_3_1 R0
  have B2 := pb_3_2 R0
  have B3 := pb_3_3 R0
  refine px_aload_n hG dX10_risings_0 rfl ?_
  refine px_iload_n hG dX10_risings_1 rfl ?_
  refine jv1 hG dX10_risings_2 ct_X10_isRowSize lk_X10_163 ⟨rfl, rfl⟩ (by decide) ⟨Nat.le_of_ble_eq_true rfl, Nat.le_of_ble_eq_true rfl, Nat.le_of_ble_eq_true rfl⟩ (Nat.le_of_ble_eq_true rfl) ⟨aa, rfl, rfl, R0, by omega⟩ (fun r1 t2 pr1 => ?_)
  obtain ⟨x3, rfl, rfl, br1⟩ := pr1 _ rfl
  show G 5 [some (.inr (.inr (0, 0))), some (.inl aa)] [.inl x3] 122 s0
  refine px_if_eq hG dX10_risings_5 (tgt := 26) (by decide) ⟨by omega, by omega⟩ (fun c4 => ?_) (fun c4 => ?_)
  · refine px_ldc2 hG dX10_risings_26 cn_X10_170 ?_
    show G 29 [some (.inr (.inr (0, 0))), some (.inl aa)] [.inr (.inl (-1))] 122 s0
    exact px_lret (st := []) hG dX10_risings_29 rfl rfl (fun aa_1 ee => by cases ee; exact ⟨_, rfl, R0, pm_Fr_rf, by omega⟩)
  · refine px_aload_n hG dX10_risings_8 rfl ?_
    refine gr_0_3 hG dX10_risings_9 fl_X10_38 R0 ?_
    refine px_aload_n hG dX10_risings_12 rfl ?_
    refine gr_0_0 hG dX10_risings_13 fl_X10_13 R0 ?_
    refine gi_3_1 hG dX10_risings_16 fl_X10_93 R0 (fun x5 ex5 lx5 ux5 => ?_)
    refine px_iload_n hG dX10_risings_19 rfl ?_
    refine jv2 hG dX10_risings_20 ct_X4_howMany lk_X10_206 ⟨rfl, rfl⟩ (by decide) ⟨Nat.le_of_ble_eq_true rfl, Nat.le_of_ble_eq_true rfl, Nat.le_of_ble_eq_true rfl⟩ (Nat.le_of_ble_eq_true rfl) ⟨x5, aa, rfl, rfl, R0, by omega⟩ (fun r6 t8 pr6 => ?_)
    obtain ⟨z9, rfl, Rt8, Ft8⟩ := pr6 _ _ rfl
    have Ff10 := pm_Fr_mono Ft8 (M := [(15, none)]) rfl
    have jj11 := Ft8 3 0 0 rfl
    have jj12 := Ft8 3 0 1 rfl
    have jj13 := Ft8 3 0 2 rfl
    have jj14 := Ft8 3 0 3 rfl
    have k15 : t8 3 0 1 = x5 := (Ft8 3 0 1 rfl).trans ex5
    show G 23 [some (.inr (.inr (0, 0))), some (.inl aa)] [.inr (.inl z9)] 122 t8
    refine px_goto hG dX10_risings_23 (tgt := 29) (by decide) ?_
    have jj16 := Ff10 3 0 0 rfl
    have jj17 := Ff10 3 0 1 rfl
    have jj18 := Ff10 3 0 2 rfl
    have jj19 := Ff10 3 0 3 rfl
    exact px_lret (st := []) hG dX10_risings_29 rfl rfl (fun aa_1 ee => by cases ee; exact ⟨_, rfl, Rt8, Ff10, by omega⟩))
def pre_X10_riseRank (as : List pm_V) (n : Nat) (σ : pm_H) : Prop := as = [.inr (.inr (0, 0))] ∧ n = 122 ∧ pm_Rng σ ∧ ((σ 3 0 3 ≤ σ 3 0 1 ∧ (σ 3 0 0 = 2 → 0 ≤ σ 3 0 2 ∧ σ 3 0 2 ≤ 9)))
def po_X10_riseRank (as : List pm_V) (_ : Nat) (σ : pm_H) (r : Option pm_V) (τ : pm_H) : Prop := as = [.inr (.inr (0, 0))] → ∃ v : Int, r = some (.inr (.inl v)) ∧ pm_Rng τ ∧ pm_Fr [(15, none)] σ τ ∧ ((τ 3 0 3 ≤ τ 3 0 1 ∧ (τ 3 0 0 = 2 → 0 ≤ τ 3 0 2 ∧ τ 3 0 2 ≤ 9)))
set_option maxRecDepth 20000 in
set_option maxHeartbeats 4000000 in
theorem ct_X10_riseRank : pm_Ct yX10_riseRank cX10_riseRank 1 (some .long) 4 0 pre_X10_riseRank po_X10_riseRank := pm_sound (ini := false) (by decide +kernel) pk_X10_riseRank (fun h => absurd h (by decide)) (by
  rintro as n s0 ⟨rfl, rfl, R0, hpre⟩
  refine ⟨by decide, Nat.le_of_ble_eq_true rfl, fun G hG => ?_⟩
  have hG : pm_Rules (RX10, 4, 122, cX10_riseRank, -1, (fun _ => 0), false, (some .long), po_X10_riseRank [.inr (.inr (0, 0))] 122 s0) G := hG
  show G 0 [some (.inr (.inr (0, 0)))] [] 122 s0
  have B0 := pb_3_0 R0
  have B1 := pb_3_1 R0
  have B2 := pb_3_2 R0
  have B3 := pb_3_3 R0
  refine px_aload_n hG dX10_riseRank_0 rfl ?_
  refine jv0 hG dX10_riseRank_1 ct_X10_isPlainGood lk_X10_172 ⟨rfl, rfl⟩ (by decide) ⟨Nat.le_of_ble_eq_true rfl, Nat.le_of_ble_eq_true rfl, Nat.le_of_ble_eq_true rfl⟩ (Nat.le_of_ble_eq_true rfl) ⟨rfl, rfl, R0, by omega⟩ (fun r1 t2 pr1 => ?_)
  obtain ⟨x3, rfl, rfl, br1⟩ := pr1 rfl
  show G 4 [some (.inr (.inr (0, 0)))] [.inl x3] 122 s0
  refine px_if_eq hG dX10_riseRank_4 (tgt := 17) (by decide) ⟨by omega, by omega⟩ (fun c4 => ?_) (fun c4 => ?_)
  · refine px_ldc2 hG dX10_riseRank_17 cn_X10_179 ?_
    show G 20 [some (.inr (.inr (0, 0)))] [.inr (.inl (-2))] 122 s0
    exact px_lret (st := []) hG dX10_riseRank_20 rfl rfl (fun _ => by exact ⟨_, rfl, R0, pm_Fr_rf, by omega⟩)
  · refine px_aload_n hG dX10_riseRank_7 rfl ?_
    refine gr_0_0 hG dX10_riseRank_8 fl_X10_13 R0 ?_
    refine jv0 hG dX10_riseRank_11 ct_X5_isRising lk_X10_207 ⟨rfl, rfl⟩ (by decide) ⟨Nat.le_of_ble_eq_true rfl, Nat.le_of_ble_eq_true rfl, Nat.le_of_ble_eq_true rfl⟩ (Nat.le_of_ble_eq_true rfl) ⟨rfl, rfl, R0⟩ (fun r5 t6 pr5 => ?_)
    obtain ⟨x7, rfl, rfl, br5⟩ := pr5 rfl
    show G 14 [some (.inr (.inr (0, 0)))] [.inl x7] 122 s0
    refine px_if_ne hG dX10_riseRank_14 (tgt := 21) (by decide) ⟨by omega, by omega⟩ (fun c8 => ?_) (fun c8 => ?_)
    · refine px_aload_n hG dX10_riseRank_21 rfl ?_
      refine gr_0_3 hG dX10_riseRank_22 fl_X10_38 R0 ?_
      refine px_aload_n hG dX10_riseRank_25 rfl ?_
      refine gr_0_0 hG dX10_riseRank_26 fl_X10_13 R0 ?_
      refine gr_3_5 hG dX10_riseRank_29 fl_X10_106 R0 ?_
      refine px_aload_n hG dX10_riseRank_32 rfl ?_
      refine gr_0_0 hG dX10_riseRank_33 fl_X10_13 R0 ?_
      refine gi_3_1 hG dX10_riseRank_36 fl_X10_93 R0 (fun x9 ex9 lx9 ux9 => ?_)
      refine px_aload_n hG dX10_riseRank_39 rfl ?_
      refine gr_0_0 hG dX10_riseRank_40 fl_X10_13 R0 ?_
      refine gi_3_3 hG dX10_riseRank_43 fl_X10_89 R0 (fun x10 ex10 lx10 ux10 => ?_)
      refine jv3 hG dX10_riseRank_46 ct_X4_numberOf lk_X10_210 ⟨rfl, rfl⟩ (by decide) ⟨Nat.le_of_ble_eq_true rfl, Nat.le_of_ble_eq_true rfl, Nat.le_of_ble_eq_true rfl⟩ (Nat.le_of_ble_eq_true rfl) ⟨x9, x10, rfl, rfl, R0, by omega⟩ (fun r11 t13 pr11 => ?_)
      obtain ⟨z14, rfl, Rt13, Ft13⟩ := pr11 _ _ rfl
      have Ff15 := pm_Fr_mono Ft13 (M := [(15, none)]) rfl
      have jj16 := Ft13 3 0 0 rfl
      have jj17 := Ft13 3 0 1 rfl
      have jj18 := Ft13 3 0 2 rfl
      have jj19 := Ft13 3 0 3 rfl
      have k20 : t13 3 0 1 = x9 := (Ft13 3 0 1 rfl).trans ex9
      have k21 : t13 3 0 3 = x10 := (Ft13 3 0 3 rfl).trans ex10
      show G 49 [some (.inr (.inr (0, 0)))] [.inr (.inl z14)] 122 t13
      have jj22 := Ff15 3 0 0 rfl
      have jj23 := Ff15 3 0 1 rfl
      have jj24 := Ff15 3 0 2 rfl
      have jj25 := Ff15 3 0 3 rfl
      exact px_lret (st := []) hG dX10_riseRank_49 rfl rfl (fun _ => by exact ⟨_, rfl, Rt13, Ff15, by omega⟩)
    · refine px_ldc2 hG dX10_riseRank_17 cn_X10_179 ?_
      show G 20 [some (.inr (.inr (0, 0)))] [.inr (.inl (-2))] 122 s0
      exact px_lret (st := []) hG dX10_riseRank_20 rfl rfl (fun _ => by exact ⟨_, rfl, R0, pm_Fr_rf, by omega⟩))
def pre_X10_riseUnrank (as : List pm_V) (n : Nat) (σ : pm_H) : Prop := ∃ aa ab : Int, as = [.inr (.inr (0, 0)), .inl aa, .inr (.inl ab)] ∧ n = 122 ∧ pm_Rng σ ∧ (pm_in aa ∧ pm_inl ab ∧ (σ 3 0 3 ≤ σ 3 0 1 ∧ (σ 3 0 0 = 2 → 0 ≤ σ 3 0 2 ∧ σ 3 0 2 ≤ 9)))
def po_X10_riseUnrank (as : List pm_V) (_ : Nat) (σ : pm_H) (r : Option pm_V) (τ : pm_H) : Prop := ∀ aa ab : Int, as = [.inr (.inr (0, 0)), .inl aa, .inr (.inl ab)] → ∃ v : Int, r = some (.inl v) ∧ pm_Rng τ ∧ pm_Fr [(3, some 3), (3, some 4), (4, none), (5, none), (6, none), (7, none), (15, none), (39, none)] σ τ ∧ ((τ 3 0 3 ≤ τ 3 0 1 ∧ (τ 3 0 0 = 2 → 0 ≤ τ 3 0 2 ∧ τ 3 0 2 ≤ 9)))
set_option maxRecDepth 20000 in
set_option maxHeartbeats 4000000 in
theorem ct_X10_riseUnrank : pm_Ct yX10_riseUnrank cX10_riseUnrank 4 (some .int) 4 0 pre_X10_riseUnrank po_X10_riseUnrank := pm_sound (ini := false) (by decide +kernel) pk_X10_riseUnrank (fun h => absurd h (by decide)) (by
  rintro as n s0 ⟨aa, ab, rfl, rfl, R0, hpre⟩
  refine ⟨by decide, Nat.le_of_ble_eq_true rfl, fun G hG => ?_⟩
  have hG : pm_Rules (RX10, 4, 122, cX10_riseUnrank, -1, (fun _ => 0), false, (some .int), po_X10_riseUnrank [.inr (.inr (0, 0)), .inl aa, .inr (.inl ab)] 122 s0) G := hG
  show G 0 [some (.inr (.inr (0, 0))), some (.inl aa), some (.inr (.inl ab)), none] [] 122 s0
  have B0 := pb_3_0 R0
  have B1 := pb_3_1 R0
  have B2 := pb_3_2 R0
  have B3 := pb_3_3 R0
  refine px_aload_n hG dX10_riseUnrank_0 rfl ?_
  refine px_iload_n hG dX10_riseUnrank_1 rfl ?_
  refine jv1 hG dX10_riseUnrank_2 ct_X10_isRowSize lk_X10_163 ⟨rfl, rfl⟩ (by decide) ⟨Nat.le_of_ble_eq_true rfl, Nat.le_of_ble_eq_true rfl, Nat.le_of_ble_eq_true rfl⟩ (Nat.le_of_ble_eq_true rfl) ⟨aa, rfl, rfl, R0, by omega⟩ (fun r1 t2 pr1 => ?_)
  obtain ⟨x3, rfl, rfl, br1⟩ := pr1 _ rfl
  show G 5 [some (.inr (.inr (0, 0))), some (.inl aa), some (.inr (.inl ab)), none] [.inl x3] 122 s0
  refine px_if_eq hG dX10_riseUnrank_5 (tgt := 34) (by decide) ⟨by omega, by omega⟩ (fun c4 => ?_) (fun c4 => ?_)
  · refine px_iconst hG dX10_riseUnrank_34 ?_
    exact px_iret (st := []) hG dX10_riseUnrank_35 rfl rfl (fun aa_1 ab_1 ee => by cases ee; exact ⟨_, rfl, R0, pm_Fr_rf, by omega⟩)
  · refine px_lload_n hG dX10_riseUnrank_8 rfl ?_
    refine px_lconst hG dX10_riseUnrank_9 ?_
    show G 10 [some (.inr (.inr (0, 0))), some (.inl aa), some (.inr (.inl ab)), none] [.inr (.inl 0), .inr (.inl ab)] 122 s0
    refine px_lcmpA hG dX10_riseUnrank_10 (fun x5 bx5 cx5 => ?_)
    refine px_if_lt hG dX10_riseUnrank_11 (tgt := 34) (by decide) ⟨by omega, by omega⟩ (fun c6 => ?_) (fun c6 => ?_)
    · refine px_iconst hG dX10_riseUnrank_34 ?_
      exact px_iret (st := []) hG dX10_riseUnrank_35 rfl rfl (fun aa_1 ab_1 ee => by cases ee; exact ⟨_, rfl, R0, pm_Fr_rf, by omega⟩)
    · refine px_lload_n hG dX10_riseUnrank_14 rfl ?_
      refine px_aload_n hG dX10_riseUnrank_15 rfl ?_
      refine gr_0_3 hG dX10_riseUnrank_16 fl_X10_38 R0 ?_
      refine px_aload_n hG dX10_riseUnrank_19 rfl ?_
      refine gr_0_0 hG dX10_riseUnrank_20 fl_X10_13 R0 ?_
      refine gi_3_1 hG dX10_riseUnrank_23 fl_X10_93 R0 (fun x7 ex7 lx7 ux7 => ?_)
      refine px_iload_n hG dX10_riseUnrank_26 rfl ?_
      refine jv2 hG dX10_riseUnrank_27 ct_X4_howMany lk_X10_206 ⟨rfl, rfl⟩ (by decide) ⟨Nat.le_of_ble_eq_true rfl, Nat.le_of_ble_eq_true rfl, Nat.le_of_ble_eq_true rfl⟩ (Nat.le_of_ble_eq_true rfl) ⟨x7, aa, rfl, rfl, R0, by omega⟩ (fun r8 t10 pr8 => ?_)
      obtain ⟨z11, rfl, Rt10, Ft10⟩ := pr8 _ _ rfl
      have Ff12 := pm_Fr_mono Ft10 (M := [(3, some 3), (3, some 4), (4, none), (5, none), (6, none), (7, none), (15, none), (39, none)]) rfl
      have jj13 := Ft10 3 0 0 rfl
      have jj14 := Ft10 3 0 1 rfl
      have jj15 := Ft10 3 0 2 rfl
      have jj16 := Ft10 3 0 3 rfl
      have k17 : t10 3 0 1 = x7 := (Ft10 3 0 1 rfl).trans ex7
      show G 30 [some (.inr (.inr (0, 0))), some (.inl aa), some (.inr (.inl ab)), none] [.inr (.inl z11), .inr (.inl ab)] 122 t10
      refine px_lcmpA hG dX10_riseUnrank_30 (fun x18 bx18 cx18 => ?_)
      refine px_if_lt hG dX10_riseUnrank_31 (tgt := 36) (by decide) ⟨by omega, by omega⟩ (fun c19 => ?_) (fun c19 => ?_)
      · refine px_aload_n hG dX10_riseUnrank_36 rfl ?_
        refine gr_0_0 hG dX10_riseUnrank_37 fl_X10_13 Rt10 ?_
        refine gi_3_0 hG dX10_riseUnrank_40 fl_X10_181 Rt10 (fun x20 ex20 lx20 ux20 => ?_)
        have ex20 : s0 3 0 0 = x20 := (Ff12 3 0 0 rfl).symm.trans ex20
        refine px_if_eq hG dX10_riseUnrank_43 (tgt := 49) (by decide) ⟨by omega, by omega⟩ (fun c21 => ?_) (fun c21 => ?_)
        · refine px_aload_n hG dX10_riseUnrank_49 rfl ?_
          refine gr_0_3 hG dX10_riseUnrank_50 fl_X10_38 Rt10 ?_
          refine px_aload_n hG dX10_riseUnrank_53 rfl ?_
          refine gr_0_9 hG dX10_riseUnrank_54 fl_X10_77 Rt10 ?_
          refine px_aload_n hG dX10_riseUnrank_57 rfl ?_
          refine gr_0_0 hG dX10_riseUnrank_58 fl_X10_13 Rt10 ?_
          refine gi_3_1 hG dX10_riseUnrank_61 fl_X10_93 Rt10 (fun x22 ex22 lx22 ux22 => ?_)
          have ex22 : s0 3 0 1 = x22 := (Ff12 3 0 1 rfl).symm.trans ex22
          refine px_iload_n hG dX10_riseUnrank_64 rfl ?_
          refine px_lload_n hG dX10_riseUnrank_65 rfl ?_
          refine jv4 hG dX10_riseUnrank_66 ct_X4_fillRow lk_X10_211 ⟨rfl, rfl⟩ (by decide) ⟨Nat.le_of_ble_eq_true rfl, Nat.le_of_ble_eq_true rfl, Nat.le_of_ble_eq_true rfl⟩ (Nat.le_of_ble_eq_true rfl) ⟨x22, aa, ab, rfl, rfl, Rt10, by omega⟩ (fun r23 t25 pr23 => ?_)
          obtain ⟨rfl, Rt25, Ft25⟩ := pr23 _ _ _ rfl
          have Ff27 := pm_Fr_tr Ff12 Ft25 (M := [(3, some 3), (3, some 4), (4, none), (5, none), (6, none), (7, none), (15, none), (39, none)]) rfl
          have jj28 := Ft25 3 0 0 rfl
          have jj29 := Ft25 3 0 1 rfl
          have jj30 := Ft25 3 0 2 rfl
          have jj31 := Ft25 3 0 3 rfl
          have k32 : t25 3 0 1 = x7 := (Ft25 3 0 1 rfl).trans k17
          show G 69 [some (.inr (.inr (0, 0))), some (.inl aa), some (.inr (.inl ab)), none] [] 122 t25
          refine px_aload_n hG dX10_riseUnrank_69 rfl ?_
          refine gr_0_0 hG dX10_riseUnrank_70 fl_X10_13 Rt25 ?_
          refine px_aload_n hG dX10_riseUnrank_73 rfl ?_
          refine gr_0_9 hG dX10_riseUnrank_74 fl_X10_77 Rt25 ?_
          refine px_iload_n hG dX10_riseUnrank_77 rfl ?_
          refine jv2 hG dX10_riseUnrank_78 ct_X5_take lk_X10_188 ⟨rfl, rfl⟩ (by decide) ⟨Nat.le_of_ble_eq_true rfl, Nat.le_of_ble_eq_true rfl, Nat.le_of_ble_eq_true rfl⟩ (Nat.le_of_ble_eq_true rfl) ⟨aa, rfl, rfl, Rt25, by omega⟩ (fun r33 t35 pr33 => ?_)
          obtain ⟨rfl, Rt35, Ft35, br33⟩ := pr33 _ rfl
          have Ff37 := pm_Fr_tr Ff27 Ft35 (M := [(3, some 3), (3, some 4), (4, none), (5, none), (6, none), (7, none), (15, none), (39, none)]) rfl
          have jj38 := Ft35 3 0 0 rfl
          have jj39 := Ft35 3 0 1 rfl
          have jj40 := Ft35 3 0 2 rfl
          have k41 : t35 3 0 1 = x7 := (Ft35 3 0 1 rfl).trans k32
          show G 81 [some (.inr (.inr (0, 0))), some (.inl aa), some (.inr (.inl ab)), none] [] 122 t35
          refine px_iload_n hG dX10_riseUnrank_81 rfl ?_
          have jj42 := Ff37 3 0 0 rfl
          have jj43 := Ff37 3 0 1 rfl
          have jj44 := Ff37 3 0 2 rfl
          exact px_iret (st := []) hG dX10_riseUnrank_82 rfl rfl (fun aa_1 ab_1 ee => by cases ee; exact ⟨_, rfl, Rt35, Ff37, by omega⟩)
        · refine px_bipush hG dX10_riseUnrank_46 (by decide) ?_
          have jj45 := Ff12 3 0 0 rfl
          have jj46 := Ff12 3 0 1 rfl
          have jj47 := Ff12 3 0 2 rfl
          exact px_iret (st := []) hG dX10_riseUnrank_48 rfl rfl (fun aa_1 ab_1 ee => by cases ee; exact ⟨_, rfl, Rt10, Ff12, by omega⟩)
      · refine px_iconst hG dX10_riseUnrank_34 ?_
        have jj48 := Ff12 3 0 0 rfl
        have jj49 := Ff12 3 0 1 rfl
        have jj50 := Ff12 3 0 2 rfl
        exact px_iret (st := []) hG dX10_riseUnrank_35 rfl rfl (fun aa_1 ab_1 ee => by cases ee; exact ⟨_, rfl, Rt10, Ff12, by omega⟩))
def pre_X10_cuts (as : List pm_V) (n : Nat) (σ : pm_H) : Prop := as = [.inr (.inr (0, 0))] ∧ n = 122 ∧ pm_Rng σ ∧ ((σ 3 0 3 ≤ σ 3 0 1 ∧ (σ 3 0 0 = 2 → 0 ≤ σ 3 0 2 ∧ σ 3 0 2 ≤ 9)))
def po_X10_cuts (as : List pm_V) (_ : Nat) (σ : pm_H) (r : Option pm_V) (τ : pm_H) : Prop := as = [.inr (.inr (0, 0))] → ∃ v : Int, r = some (.inl v) ∧ σ = τ
set_option maxRecDepth 20000 in
set_option maxHeartbeats 4000000 in
theorem ct_X10_cuts : pm_Ct yX10_cuts cX10_cuts 1 (some .int) 5 0 pre_X10_cuts po_X10_cuts := pm_sound (ini := false) (by decide +kernel) pk_X10_cuts (fun h => absurd h (by decide)) (by
  rintro as n s0 ⟨rfl, rfl, R0, hpre⟩
  refine ⟨by decide, Nat.le_of_ble_eq_true rfl, fun G hG => ?_⟩
  have hG : pm_Rules (RX10, 5, 122, cX10_cuts, -1, (fun _ => 0), false, (some .int), po_X10_cuts [.inr (.inr (0, 0))] 122 s0) G := hG
  show G 0 [some (.inr (.inr (0, 0)))] [] 122 s0
  have B0 := pb_3_0 R0
  have B1 := pb_3_1 R0
  have B2 := pb_3_2 R0
  have B3 := pb_3_3 R0
  refine px_aload_n hG dX10_cuts_0 rfl ?_
  refine jv0 hG dX10_cuts_1 ct_X10_hasTree lk_X10_212 ⟨rfl, rfl⟩ (by decide) ⟨Nat.le_of_ble_eq_true rfl, Nat.le_of_ble_eq_true rfl, Nat.le_of_ble_eq_true rfl⟩ (Nat.le_of_ble_eq_true rfl) ⟨rfl, rfl, R0, by omega⟩ (fun r1 t2 pr1 => ?_)
  obtain ⟨x3, rfl, rfl, br1⟩ := pr1 rfl
  show G 4 [some (.inr (.inr (0, 0)))] [.inl x3] 122 s0
  refine px_if_eq hG dX10_cuts_4 (tgt := 17) (by decide) ⟨by omega, by omega⟩ (fun c4 => ?_) (fun c4 => ?_)
  · refine px_bipush hG dX10_cuts_17 (by decide) ?_
    exact px_iret (st := []) hG dX10_cuts_19 rfl rfl (fun _ => by exact ⟨_, rfl, rfl⟩)
  · refine px_aload_n hG dX10_cuts_7 rfl ?_
    refine gr_0_0 hG dX10_cuts_8 fl_X10_13 R0 ?_
    refine jv0 hG dX10_cuts_11 ct_X5_cutBits lk_X10_215 ⟨rfl, rfl⟩ (by decide) ⟨Nat.le_of_ble_eq_true rfl, Nat.le_of_ble_eq_true rfl, Nat.le_of_ble_eq_true rfl⟩ (Nat.le_of_ble_eq_true rfl) ⟨rfl, rfl, R0⟩ (fun r5 t6 pr5 => ?_)
    obtain ⟨x7, rfl, rfl, br5⟩ := pr5 rfl
    show G 14 [some (.inr (.inr (0, 0)))] [.inl x7] 122 s0
    refine px_goto hG dX10_cuts_14 (tgt := 19) (by decide) ?_
    exact px_iret (st := []) hG dX10_cuts_19 rfl rfl (fun _ => by exact ⟨_, rfl, rfl⟩))
def pre_X10_primes (as : List pm_V) (n : Nat) (σ : pm_H) : Prop := as = [.inr (.inr (0, 0))] ∧ n = 122 ∧ pm_Rng σ ∧ ((σ 3 0 3 ≤ σ 3 0 1 ∧ (σ 3 0 0 = 2 → 0 ≤ σ 3 0 2 ∧ σ 3 0 2 ≤ 9)))
def po_X10_primes (as : List pm_V) (_ : Nat) (σ : pm_H) (r : Option pm_V) (τ : pm_H) : Prop := as = [.inr (.inr (0, 0))] → ∃ v : Int, r = some (.inr (.inl v)) ∧ σ = τ
set_option maxRecDepth 20000 in
set_option maxHeartbeats 4000000 in
theorem ct_X10_primes : pm_Ct yX10_primes cX10_primes 1 (some .long) 2 0 pre_X10_primes po_X10_primes := pm_sound (ini := false) (by decide +kernel) pk_X10_primes (fun h => absurd h (by decide)) (by
  rintro as n s0 ⟨rfl, rfl, R0, hpre⟩
  refine ⟨by decide, Nat.le_of_ble_eq_true rfl, fun G hG => ?_⟩
  have hG : pm_Rules (RX10, 2, 122, cX10_primes, -1, (fun _ => 0), false, (some .long), po_X10_primes [.inr (.inr (0, 0))] 122 s0) G := hG
  show G 0 [some (.inr (.inr (0, 0)))] [] 122 s0
  have B0 := pb_3_0 R0
  have B1 := pb_3_1 R0
  have B2 := pb_3_2 R0
  have B3 := pb_3_3 R0
  refine px_aload_n hG dX10_primes_0 rfl ?_
  refine gr_0_2 hG dX10_primes_1 fl_X10_31 R0 ?_
  refine px_aload_n hG dX10_primes_4 rfl ?_
  refine gr_0_0 hG dX10_primes_5 fl_X10_13 R0 ?_
  refine gi_3_1 hG dX10_primes_8 fl_X10_93 R0 (fun x1 ex1 lx1 ux1 => ?_)
  refine jv1 hG dX10_primes_11 ct_X0_primeRows lk_X10_218 ⟨rfl, rfl⟩ (by decide) ⟨Nat.le_of_ble_eq_true rfl, Nat.le_of_ble_eq_true rfl, Nat.le_of_ble_eq_true rfl⟩ (Nat.le_of_ble_eq_true rfl) ⟨x1, rfl, rfl, R0, by omega⟩ (fun r2 t3 pr2 => ?_)
  obtain ⟨z4, rfl, rfl⟩ := pr2 _ rfl
  show G 14 [some (.inr (.inr (0, 0)))] [.inr (.inl z4)] 122 s0
  exact px_lret (st := []) hG dX10_primes_14 rfl rfl (fun _ => by exact ⟨_, rfl, rfl⟩))
def pre_X10_mend (as : List pm_V) (n : Nat) (σ : pm_H) : Prop := as = [.inr (.inr (0, 0))] ∧ n = 122 ∧ pm_Rng σ ∧ ((σ 3 0 3 ≤ σ 3 0 1 ∧ (σ 3 0 0 = 2 → 0 ≤ σ 3 0 2 ∧ σ 3 0 2 ≤ 9)))
def po_X10_mend (as : List pm_V) (_ : Nat) (σ : pm_H) (r : Option pm_V) (τ : pm_H) : Prop := as = [.inr (.inr (0, 0))] → ∃ v : Int, r = some (.inl v) ∧ pm_Rng τ ∧ pm_Fr [(3, some 4), (4, none), (6, none), (7, none)] σ τ ∧ ((τ 3 0 3 ≤ τ 3 0 1 ∧ (τ 3 0 0 = 2 → 0 ≤ τ 3 0 2 ∧ τ 3 0 2 ≤ 9)))
set_option maxRecDepth 20000 in
set_option maxHeartbeats 4000000 in
theorem ct_X10_mend : pm_Ct yX10_mend cX10_mend 2 (some .int) 3 0 pre_X10_mend po_X10_mend := pm_sound (ini := false) (by decide +kernel) pk_X10_mend (fun h => absurd h (by decide)) (by
  rintro as n s0 ⟨rfl, rfl, R0, hpre⟩
  refine ⟨by decide, Nat.le_of_ble_eq_true rfl, fun G hG => ?_⟩
  have hG : pm_Rules (RX10, 3, 122, cX10_mend, -1, (fun _ => 0), false, (some .int), po_X10_mend [.inr (.inr (0, 0))] 122 s0) G := hG
  show G 0 [some (.inr (.inr (0, 0))), none] [] 122 s0
  have B0 := pb_3_0 R0
  have B1 := pb_3_1 R0
  have B2 := pb_3_2 R0
  have B3 := pb_3_3 R0
  refine px_aload_n hG dX10_mend_0 rfl ?_
  refine gr_0_0 hG dX10_mend_1 fl_X10_13 R0 ?_
  refine jv0 hG dX10_mend_4 ct_X5_isPlain lk_X10_222 ⟨rfl, rfl⟩ (by decide) ⟨Nat.le_of_ble_eq_true rfl, Nat.le_of_ble_eq_true rfl, Nat.le_of_ble_eq_true rfl⟩ (Nat.le_of_ble_eq_true rfl) ⟨rfl, rfl, R0⟩ (fun r1 t2 pr1 => ?_)
  obtain ⟨x3, rfl, rfl, br1⟩ := pr1 rfl
  show G 7 [some (.inr (.inr (0, 0))), none] [.inl x3] 122 s0
  refine px_if_eq hG dX10_mend_7 (tgt := 27) (by decide) ⟨by omega, by omega⟩ (fun c4 => ?_) (fun c4 => ?_)
  · refine px_bipush hG dX10_mend_27 (by decide) ?_
    exact px_iret (st := []) hG dX10_mend_29 rfl rfl (fun _ => by exact ⟨_, rfl, R0, pm_Fr_rf, by omega⟩)
  · refine px_aload_n hG dX10_mend_10 rfl ?_
    refine gr_0_0 hG dX10_mend_11 fl_X10_13 R0 ?_
    refine gi_3_3 hG dX10_mend_14 fl_X10_89 R0 (fun x5 ex5 lx5 ux5 => ?_)
    refine px_aload_n hG dX10_mend_17 rfl ?_
    refine gr_0_0 hG dX10_mend_18 fl_X10_13 R0 ?_
    refine gi_3_1 hG dX10_mend_21 fl_X10_93 R0 (fun x6 ex6 lx6 ux6 => ?_)
    refine px_ic_eq hG dX10_mend_24 (tgt := 30) (by decide) ⟨by omega, by omega⟩ ⟨by omega, by omega⟩ (fun c7 => ?_) (fun c7 => ?_)
    · refine px_aload_n hG dX10_mend_30 rfl ?_
      refine gr_0_0 hG dX10_mend_31 fl_X10_13 R0 ?_
      refine jv0 hG dX10_mend_34 ct_X5_mendWishes lk_X10_225 ⟨rfl, rfl⟩ (by decide) ⟨Nat.le_of_ble_eq_true rfl, Nat.le_of_ble_eq_true rfl, Nat.le_of_ble_eq_true rfl⟩ (Nat.le_of_ble_eq_true rfl) ⟨rfl, rfl, R0⟩ (fun r8 t10 pr8 => ?_)
      obtain ⟨x11, rfl, Rt10, Ft10, br8⟩ := pr8 rfl
      have Ff12 := pm_Fr_mono Ft10 (M := [(3, some 4), (4, none), (6, none), (7, none)]) rfl
      have jj13 := Ft10 3 0 0 rfl
      have jj14 := Ft10 3 0 1 rfl
      have jj15 := Ft10 3 0 2 rfl
      have jj16 := Ft10 3 0 3 rfl
      have k17 : t10 3 0 3 = x5 := (Ft10 3 0 3 rfl).trans ex5
      have k18 : t10 3 0 1 = x6 := (Ft10 3 0 1 rfl).trans ex6
      show G 37 [some (.inr (.inr (0, 0))), none] [.inl x11] 122 t10
      refine px_istore_n hG dX10_mend_37 (Nat.le_of_ble_eq_true rfl) (L2 := [some (.inr (.inr (0, 0))), some (.inl x11)]) rfl ?_
      refine px_aload_n hG dX10_mend_38 rfl ?_
      refine gr_0_0 hG dX10_mend_39 fl_X10_13 Rt10 ?_
      refine jv0 hG dX10_mend_42 ct_X5_settle lk_X10_100 ⟨rfl, rfl⟩ (by decide) ⟨Nat.le_of_ble_eq_true rfl, Nat.le_of_ble_eq_true rfl, Nat.le_of_ble_eq_true rfl⟩ (Nat.le_of_ble_eq_true rfl) ⟨rfl, rfl, Rt10, by omega⟩ (fun r19 t21 pr19 => ?_)
      obtain ⟨rfl, Rt21, Ft21⟩ := pr19 rfl
      have Ff23 := pm_Fr_tr Ff12 Ft21 (M := [(3, some 4), (4, none), (6, none), (7, none)]) rfl
      have jj24 := Ft21 3 0 0 rfl
      have jj25 := Ft21 3 0 1 rfl
      have jj26 := Ft21 3 0 2 rfl
      have jj27 := Ft21 3 0 3 rfl
      have k28 : t21 3 0 3 = x5 := (Ft21 3 0 3 rfl).trans k17
      have k29 : t21 3 0 1 = x6 := (Ft21 3 0 1 rfl).trans k18
      show G 45 [some (.inr (.inr (0, 0))), some (.inl x11)] [] 122 t21
      refine px_iload_n hG dX10_mend_45 rfl ?_
      have jj30 := Ff23 3 0 0 rfl
      have jj31 := Ff23 3 0 1 rfl
      have jj32 := Ff23 3 0 2 rfl
      have jj33 := Ff23 3 0 3 rfl
      exact px_iret (st := []) hG dX10_mend_46 rfl rfl (fun _ => by exact ⟨_, rfl, Rt21, Ff23, by omega⟩)
    · refine px_bipush hG dX10_mend_27 (by decide) ?_
      exact px_iret (st := []) hG dX10_mend_29 rfl rfl (fun _ => by exact ⟨_, rfl, R0, pm_Fr_rf, by omega⟩))
def pre_X10_node (as : List pm_V) (n : Nat) (σ : pm_H) : Prop := ∃ aa ab : Int, as = [.inr (.inr (0, 0)), .inl aa, .inl ab] ∧ n = 122 ∧ pm_Rng σ ∧ (pm_in aa ∧ pm_in ab ∧ (σ 3 0 3 ≤ σ 3 0 1 ∧ (σ 3 0 0 = 2 → 0 ≤ σ 3 0 2 ∧ σ 3 0 2 ≤ 9)))
def po_X10_node (as : List pm_V) (_ : Nat) (σ : pm_H) (r : Option pm_V) (τ : pm_H) : Prop := ∀ aa ab : Int, as = [.inr (.inr (0, 0)), .inl aa, .inl ab] → ∃ v : Int, r = some (.inl v) ∧ pm_Rng τ ∧ pm_Fr [(16, some 0), (17, none), (18, none), (19, none), (20, none), (21, none), (22, none)] σ τ ∧ ((τ 3 0 3 ≤ τ 3 0 1 ∧ (τ 3 0 0 = 2 → 0 ≤ τ 3 0 2 ∧ τ 3 0 2 ≤ 9)))
set_option maxRecDepth 20000 in
set_option maxHeartbeats 4000000 in
theorem ct_X10_node : pm_Ct yX10_node cX10_node 3 (some .int) 5 0 pre_X10_node po_X10_node := pm_sound (ini := false) (by decide +kernel) pk_X10_node (fun h => absurd h (by decide)) (by
  rintro as n s0 ⟨aa, ab, rfl, rfl, R0, hpre⟩
  refine ⟨by decide, Nat.le_of_ble_eq_true rfl, fun G hG => ?_⟩
  have hG : pm_Rules (RX10, 5, 122, cX10_node, -1, (fun _ => 0), false, (some .int), po_X10_node [.inr (.inr (0, 0)), .inl aa, .inl ab] 122 s0) G := hG
  show G 0 [some (.inr (.inr (0, 0))), some (.inl aa), some (.inl ab)] [] 122 s0
  have B0 := pb_3_0 R0
  have B1 := pb_3_1 R0
  have B2 := pb_3_2 R0
  have B3 := pb_3_3 R0
  refine px_aload_n hG dX10_node_0 rfl ?_
  refine gr_0_0 hG dX10_node_1 fl_X10_13 R0 ?_
  refine px_iload_n hG dX10_node_4 rfl ?_
  refine jv1 hG dX10_node_5 ct_X5_hasCar lk_X10_103 ⟨rfl, rfl⟩ (by decide) ⟨Nat.le_of_ble_eq_true rfl, Nat.le_of_ble_eq_true rfl, Nat.le_of_ble_eq_true rfl⟩ (Nat.le_of_ble_eq_true rfl) ⟨aa, rfl, rfl, R0, by omega⟩ (fun r1 t2 pr1 => ?_)
  obtain ⟨x3, rfl, rfl, br1⟩ := pr1 _ rfl
  show G 8 [some (.inr (.inr (0, 0))), some (.inl aa), some (.inl ab)] [.inl x3] 122 s0
  refine px_if_eq hG dX10_node_8 (tgt := 20) (by decide) ⟨by omega, by omega⟩ (fun c4 => ?_) (fun c4 => ?_)
  · refine px_iconst hG dX10_node_20 ?_
    exact px_iret (st := []) hG dX10_node_21 rfl rfl (fun aa_1 ab_1 ee => by cases ee; exact ⟨_, rfl, R0, pm_Fr_rf, by omega⟩)
  · refine px_iload_n hG dX10_node_11 rfl ?_
    refine px_if_lt hG dX10_node_12 (tgt := 20) (by decide) ⟨by omega, by omega⟩ (fun c5 => ?_) (fun c5 => ?_)
    · refine px_iconst hG dX10_node_20 ?_
      exact px_iret (st := []) hG dX10_node_21 rfl rfl (fun aa_1 ab_1 ee => by cases ee; exact ⟨_, rfl, R0, pm_Fr_rf, by omega⟩)
    · refine px_iload_n hG dX10_node_15 rfl ?_
      refine px_iconst hG dX10_node_16 ?_
      refine px_ic_le hG dX10_node_17 (tgt := 22) (by decide) ⟨by omega, by omega⟩ ⟨by omega, by omega⟩ (fun c6 => ?_) (fun c6 => ?_)
      · refine px_aload_n hG dX10_node_22 rfl ?_
        refine jv0 hG dX10_node_23 ct_X10_hasTree lk_X10_212 ⟨rfl, rfl⟩ (by decide) ⟨Nat.le_of_ble_eq_true rfl, Nat.le_of_ble_eq_true rfl, Nat.le_of_ble_eq_true rfl⟩ (Nat.le_of_ble_eq_true rfl) ⟨rfl, rfl, R0, by omega⟩ (fun r7 t8 pr7 => ?_)
        obtain ⟨x9, rfl, rfl, br7⟩ := pr7 rfl
        show G 26 [some (.inr (.inr (0, 0))), some (.inl aa), some (.inl ab)] [.inl x9] 122 s0
        refine px_if_ne hG dX10_node_26 (tgt := 32) (by decide) ⟨by omega, by omega⟩ (fun c10 => ?_) (fun c10 => ?_)
        · refine px_aload_n hG dX10_node_32 rfl ?_
          refine gr_0_4 hG dX10_node_33 fl_X10_45 R0 ?_
          refine px_aload_n hG dX10_node_36 rfl ?_
          refine gr_0_0 hG dX10_node_37 fl_X10_13 R0 ?_
          refine gr_3_5 hG dX10_node_40 fl_X10_106 R0 ?_
          refine px_aload_n hG dX10_node_43 rfl ?_
          refine gr_0_0 hG dX10_node_44 fl_X10_13 R0 ?_
          refine gi_3_1 hG dX10_node_47 fl_X10_93 R0 (fun x11 ex11 lx11 ux11 => ?_)
          refine jv2 hG dX10_node_50 ct_X8_build lk_X10_228 ⟨rfl, rfl⟩ (by decide) ⟨Nat.le_of_ble_eq_true rfl, Nat.le_of_ble_eq_true rfl, Nat.le_of_ble_eq_true rfl⟩ (Nat.le_of_ble_eq_true rfl) ⟨x11, rfl, rfl, R0, by omega⟩ (fun r12 t14 pr12 => ?_)
          obtain ⟨rfl, Rt14, Ft14, br12⟩ := pr12 _ rfl
          have Ff16 := pm_Fr_mono Ft14 (M := [(16, some 0), (17, none), (18, none), (19, none), (20, none), (21, none), (22, none)]) rfl
          have jj17 := Ft14 3 0 0 rfl
          have jj18 := Ft14 3 0 1 rfl
          have jj19 := Ft14 3 0 2 rfl
          have jj20 := Ft14 3 0 3 rfl
          have k21 : t14 3 0 1 = x11 := (Ft14 3 0 1 rfl).trans ex11
          show G 53 [some (.inr (.inr (0, 0))), some (.inl aa), some (.inl ab)] [] 122 t14
          refine px_iload_n hG dX10_node_53 rfl ?_
          refine px_tsw hG dX10_node_54 ⟨by omega, by omega⟩ (by decide) (And.intro (by decide) (And.intro (fun c54_0 => ?_) (And.intro (by decide) (And.intro (fun c54_1 => ?_) (And.intro (by decide) (And.intro (fun c54_2 => ?_) (And.intro (by decide) (And.intro (fun c54_3 => ?_) (trivial))))))))) (fun c54_d => ?_) (by decide)
          · show G 84 [some (.inr (.inr (0, 0))), some (.inl aa), some (.inl ab)] [] 122 t14
            refine px_aload_n hG dX10_node_84 rfl ?_
            refine gr_0_4 hG dX10_node_85 fl_X10_45 Rt14 ?_
            refine gr_16_1 hG dX10_node_88 fl_X10_231 Rt14 ?_
            refine px_iload_n hG dX10_node_91 rfl ?_
            refine al_17 hG dX10_node_92 Rt14 (by omega) (fun x22 ex22 lx22 ux22 => ?_)
            have jj23 := Ff16 3 0 0 rfl
            have jj24 := Ff16 3 0 1 rfl
            have jj25 := Ff16 3 0 2 rfl
            have jj26 := Ff16 3 0 3 rfl
            exact px_iret (st := []) hG dX10_node_93 rfl rfl (fun aa_1 ab_1 ee => by cases ee; exact ⟨_, rfl, Rt14, Ff16, by omega⟩)
          · show G 94 [some (.inr (.inr (0, 0))), some (.inl aa), some (.inl ab)] [] 122 t14
            refine px_aload_n hG dX10_node_94 rfl ?_
            refine gr_0_4 hG dX10_node_95 fl_X10_45 Rt14 ?_
            refine gr_16_2 hG dX10_node_98 fl_X10_234 Rt14 ?_
            refine px_iload_n hG dX10_node_101 rfl ?_
            refine al_18 hG dX10_node_102 Rt14 (by omega) (fun x27 ex27 lx27 ux27 => ?_)
            have jj28 := Ff16 3 0 0 rfl
            have jj29 := Ff16 3 0 1 rfl
            have jj30 := Ff16 3 0 2 rfl
            have jj31 := Ff16 3 0 3 rfl
            exact px_iret (st := []) hG dX10_node_103 rfl rfl (fun aa_1 ab_1 ee => by cases ee; exact ⟨_, rfl, Rt14, Ff16, by omega⟩)
          · show G 104 [some (.inr (.inr (0, 0))), some (.inl aa), some (.inl ab)] [] 122 t14
            refine px_aload_n hG dX10_node_104 rfl ?_
            refine gr_0_4 hG dX10_node_105 fl_X10_45 Rt14 ?_
            refine gr_16_3 hG dX10_node_108 fl_X10_237 Rt14 ?_
            refine px_iload_n hG dX10_node_111 rfl ?_
            refine al_19 hG dX10_node_112 Rt14 (by omega) (fun x32 ex32 lx32 ux32 => ?_)
            have jj33 := Ff16 3 0 0 rfl
            have jj34 := Ff16 3 0 1 rfl
            have jj35 := Ff16 3 0 2 rfl
            have jj36 := Ff16 3 0 3 rfl
            exact px_iret (st := []) hG dX10_node_113 rfl rfl (fun aa_1 ab_1 ee => by cases ee; exact ⟨_, rfl, Rt14, Ff16, by omega⟩)
          · show G 114 [some (.inr (.inr (0, 0))), some (.inl aa), some (.inl ab)] [] 122 t14
            refine px_aload_n hG dX10_node_114 rfl ?_
            refine gr_0_4 hG dX10_node_115 fl_X10_45 Rt14 ?_
            refine gr_16_4 hG dX10_node_118 fl_X10_240 Rt14 ?_
            refine px_iload_n hG dX10_node_121 rfl ?_
            refine al_20 hG dX10_node_122 Rt14 (by omega) (fun x37 ex37 lx37 ux37 => ?_)
            have jj38 := Ff16 3 0 0 rfl
            have jj39 := Ff16 3 0 1 rfl
            have jj40 := Ff16 3 0 2 rfl
            have jj41 := Ff16 3 0 3 rfl
            exact px_iret (st := []) hG dX10_node_123 rfl rfl (fun aa_1 ab_1 ee => by cases ee; exact ⟨_, rfl, Rt14, Ff16, by omega⟩)
          · show G 124 [some (.inr (.inr (0, 0))), some (.inl aa), some (.inl ab)] [] 122 t14
            refine px_aload_n hG dX10_node_124 rfl ?_
            refine gr_0_4 hG dX10_node_125 fl_X10_45 Rt14 ?_
            refine gr_16_5 hG dX10_node_128 fl_X10_243 Rt14 ?_
            refine px_iload_n hG dX10_node_131 rfl ?_
            refine al_21 hG dX10_node_132 Rt14 (by omega) (fun x42 ex42 lx42 ux42 => ?_)
            have jj43 := Ff16 3 0 0 rfl
            have jj44 := Ff16 3 0 1 rfl
            have jj45 := Ff16 3 0 2 rfl
            have jj46 := Ff16 3 0 3 rfl
            exact px_iret (st := []) hG dX10_node_133 rfl rfl (fun aa_1 ab_1 ee => by cases ee; exact ⟨_, rfl, Rt14, Ff16, by omega⟩)
        · refine px_bipush hG dX10_node_29 (by decide) ?_
          exact px_iret (st := []) hG dX10_node_31 rfl rfl (fun aa_1 ab_1 ee => by cases ee; exact ⟨_, rfl, R0, pm_Fr_rf, by omega⟩)
      · refine px_iconst hG dX10_node_20 ?_
        exact px_iret (st := []) hG dX10_node_21 rfl rfl (fun aa_1 ab_1 ee => by cases ee; exact ⟨_, rfl, R0, pm_Fr_rf, by omega⟩))
def pre_X10_inv (as : List pm_V) (n : Nat) (σ : pm_H) : Prop := as = [.inr (.inr (0, 0))] ∧ n = 122 ∧ pm_Rng σ ∧ ((σ 3 0 3 ≤ σ 3 0 1 ∧ (σ 3 0 0 = 2 → 0 ≤ σ 3 0 2 ∧ σ 3 0 2 ≤ 9)))
def po_X10_inv (as : List pm_V) (_ : Nat) (σ : pm_H) (r : Option pm_V) (τ : pm_H) : Prop := as = [.inr (.inr (0, 0))] → ∃ v : Int, r = some (.inl v) ∧ pm_Rng τ ∧ pm_Fr [(16, some 0), (17, none), (18, none), (19, none), (20, none), (21, none), (22, none)] σ τ ∧ ((τ 3 0 3 ≤ τ 3 0 1 ∧ (τ 3 0 0 = 2 → 0 ≤ τ 3 0 2 ∧ τ 3 0 2 ≤ 9)))
set_option maxRecDepth 20000 in
set_option maxHeartbeats 4000000 in
theorem ct_X10_inv : pm_Ct yX10_inv cX10_inv 1 (some .int) 5 0 pre_X10_inv po_X10_inv := pm_sound (ini := false) (by decide +kernel) pk_X10_inv (fun h => absurd h (by decide)) (by
  rintro as n s0 ⟨rfl, rfl, R0, hpre⟩
  refine ⟨by decide, Nat.le_of_ble_eq_true rfl, fun G hG => ?_⟩
  have hG : pm_Rules (RX10, 5, 122, cX10_inv, -1, (fun _ => 0), false, (some .int), po_X10_inv [.inr (.inr (0, 0))] 122 s0) G := hG
  show G 0 [some (.inr (.inr (0, 0)))] [] 122 s0
  have B0 := pb_3_0 R0
  have B1 := pb_3_1 R0
  have B2 := pb_3_2 R0
  have B3 := pb_3_3 R0
  refine px_aload_n hG dX10_inv_0 rfl ?_
  refine jv0 hG dX10_inv_1 ct_X10_hasTree lk_X10_212 ⟨rfl, rfl⟩ (by decide) ⟨Nat.le_of_ble_eq_true rfl, Nat.le_of_ble_eq_true rfl, Nat.le_of_ble_eq_true rfl⟩ (Nat.le_of_ble_eq_true rfl) ⟨rfl, rfl, R0, by omega⟩ (fun r1 t2 pr1 => ?_)
  obtain ⟨x3, rfl, rfl, br1⟩ := pr1 rfl
  show G 4 [some (.inr (.inr (0, 0)))] [.inl x3] 122 s0
  refine px_if_ne hG dX10_inv_4 (tgt := 10) (by decide) ⟨by omega, by omega⟩ (fun c4 => ?_) (fun c4 => ?_)
  · refine px_aload_n hG dX10_inv_10 rfl ?_
    refine gr_0_4 hG dX10_inv_11 fl_X10_45 R0 ?_
    refine px_aload_n hG dX10_inv_14 rfl ?_
    refine gr_0_0 hG dX10_inv_15 fl_X10_13 R0 ?_
    refine gr_3_5 hG dX10_inv_18 fl_X10_106 R0 ?_
    refine px_aload_n hG dX10_inv_21 rfl ?_
    refine gr_0_0 hG dX10_inv_22 fl_X10_13 R0 ?_
    refine gi_3_1 hG dX10_inv_25 fl_X10_93 R0 (fun x5 ex5 lx5 ux5 => ?_)
    refine jv2 hG dX10_inv_28 ct_X8_build lk_X10_228 ⟨rfl, rfl⟩ (by decide) ⟨Nat.le_of_ble_eq_true rfl, Nat.le_of_ble_eq_true rfl, Nat.le_of_ble_eq_true rfl⟩ (Nat.le_of_ble_eq_true rfl) ⟨x5, rfl, rfl, R0, by omega⟩ (fun r6 t8 pr6 => ?_)
    obtain ⟨rfl, Rt8, Ft8, br6⟩ := pr6 _ rfl
    have Ff10 := pm_Fr_mono Ft8 (M := [(16, some 0), (17, none), (18, none), (19, none), (20, none), (21, none), (22, none)]) rfl
    have jj11 := Ft8 3 0 0 rfl
    have jj12 := Ft8 3 0 1 rfl
    have jj13 := Ft8 3 0 2 rfl
    have jj14 := Ft8 3 0 3 rfl
    have k15 : t8 3 0 1 = x5 := (Ft8 3 0 1 rfl).trans ex5
    show G 31 [some (.inr (.inr (0, 0)))] [] 122 t8
    refine px_aload_n hG dX10_inv_31 rfl ?_
    refine gr_0_4 hG dX10_inv_32 fl_X10_45 Rt8 ?_
    refine jv0 hG dX10_inv_35 ct_X8_inversions lk_X10_246 ⟨rfl, rfl⟩ (by decide) ⟨Nat.le_of_ble_eq_true rfl, Nat.le_of_ble_eq_true rfl, Nat.le_of_ble_eq_true rfl⟩ (Nat.le_of_ble_eq_true rfl) ⟨rfl, rfl, Rt8⟩ (fun r16 t17 pr16 => ?_)
    obtain ⟨x18, rfl, rfl⟩ := pr16 rfl
    show G 38 [some (.inr (.inr (0, 0)))] [.inl x18] 122 t8
    have jj19 := Ff10 3 0 0 rfl
    have jj20 := Ff10 3 0 1 rfl
    have jj21 := Ff10 3 0 2 rfl
    have jj22 := Ff10 3 0 3 rfl
    exact px_iret (st := []) hG dX10_inv_38 rfl rfl (fun _ => by exact ⟨_, rfl, Rt8, Ff10, by omega⟩)
  · refine px_bipush hG dX10_inv_7 (by decide) ?_
    exact px_iret (st := []) hG dX10_inv_9 rfl rfl (fun _ => by exact ⟨_, rfl, R0, pm_Fr_rf, by omega⟩))
def pre_X10_code (as : List pm_V) (n : Nat) (σ : pm_H) : Prop := ∃ aa : Int, as = [.inr (.inr (0, 0)), .inl aa] ∧ n = 122 ∧ pm_Rng σ ∧ (pm_in aa ∧ (σ 3 0 3 ≤ σ 3 0 1 ∧ (σ 3 0 0 = 2 → 0 ≤ σ 3 0 2 ∧ σ 3 0 2 ≤ 9)))
def po_X10_code (as : List pm_V) (_ : Nat) (σ : pm_H) (r : Option pm_V) (τ : pm_H) : Prop := ∀ aa : Int, as = [.inr (.inr (0, 0)), .inl aa] → ∃ v : Int, r = some (.inl v) ∧ pm_Rng τ ∧ pm_Fr [(16, some 0), (17, none), (18, none), (19, none), (20, none), (21, none), (22, none), (23, none)] σ τ ∧ ((τ 3 0 3 ≤ τ 3 0 1 ∧ (τ 3 0 0 = 2 → 0 ≤ τ 3 0 2 ∧ τ 3 0 2 ≤ 9)))
set_option maxRecDepth 20000 in
set_option maxHeartbeats 4000000 in
theorem ct_X10_code : pm_Ct yX10_code cX10_code 2 (some .int) 5 0 pre_X10_code po_X10_code := pm_sound (ini := false) (by decide +kernel) pk_X10_code (fun h => absurd h (by decide)) (by
  rintro as n s0 ⟨aa, rfl, rfl, R0, hpre⟩
  refine ⟨by decide, Nat.le_of_ble_eq_true rfl, fun G hG => ?_⟩
  have hG : pm_Rules (RX10, 5, 122, cX10_code, -1, (fun _ => 0), false, (some .int), po_X10_code [.inr (.inr (0, 0)), .inl aa] 122 s0) G := hG
  show G 0 [some (.inr (.inr (0, 0))), some (.inl aa)] [] 122 s0
  have B0 := pb_3_0 R0
  have B1 := pb_3_1 R0
  have B2 := pb_3_2 R0
  have B3 := pb_3_3 R0
  refine px_iload_n hG dX10_code_0 rfl ?_
  refine px_if_lt hG dX10_code_1 (tgt := 17) (by decide) ⟨by omega, by omega⟩ (fun c1 => ?_) (fun c1 => ?_)
  · refine px_iconst hG dX10_code_17 ?_
    exact px_iret (st := []) hG dX10_code_18 rfl rfl (fun aa_1 ee => by cases ee; exact ⟨_, rfl, R0, pm_Fr_rf, by omega⟩)
  · refine px_iload_n hG dX10_code_4 rfl ?_
    refine px_aload_n hG dX10_code_5 rfl ?_
    refine gr_0_0 hG dX10_code_6 fl_X10_13 R0 ?_
    refine gi_3_1 hG dX10_code_9 fl_X10_93 R0 (fun x2 ex2 lx2 ux2 => ?_)
    refine px_iconst hG dX10_code_12 ?_
    refine px_isub hG dX10_code_13 ?_
    refine px_ic_le hG dX10_code_14 (tgt := 19) (by decide) ⟨by omega, by omega⟩ ⟨by omega, by omega⟩ (fun c3 => ?_) (fun c3 => ?_)
    · refine px_aload_n hG dX10_code_19 rfl ?_
      refine jv0 hG dX10_code_20 ct_X10_hasTree lk_X10_212 ⟨rfl, rfl⟩ (by decide) ⟨Nat.le_of_ble_eq_true rfl, Nat.le_of_ble_eq_true rfl, Nat.le_of_ble_eq_true rfl⟩ (Nat.le_of_ble_eq_true rfl) ⟨rfl, rfl, R0, by omega⟩ (fun r4 t5 pr4 => ?_)
      obtain ⟨x6, rfl, rfl, br4⟩ := pr4 rfl
      show G 23 [some (.inr (.inr (0, 0))), some (.inl aa)] [.inl x6] 122 s0
      refine px_if_ne hG dX10_code_23 (tgt := 29) (by decide) ⟨by omega, by omega⟩ (fun c7 => ?_) (fun c7 => ?_)
      · refine px_aload_n hG dX10_code_29 rfl ?_
        refine gr_0_4 hG dX10_code_30 fl_X10_45 R0 ?_
        refine px_aload_n hG dX10_code_33 rfl ?_
        refine gr_0_0 hG dX10_code_34 fl_X10_13 R0 ?_
        refine gr_3_5 hG dX10_code_37 fl_X10_106 R0 ?_
        refine px_aload_n hG dX10_code_40 rfl ?_
        refine gr_0_0 hG dX10_code_41 fl_X10_13 R0 ?_
        refine gi_3_1 hG dX10_code_44 fl_X10_93 R0 (fun x8 ex8 lx8 ux8 => ?_)
        refine jv2 hG dX10_code_47 ct_X8_build lk_X10_228 ⟨rfl, rfl⟩ (by decide) ⟨Nat.le_of_ble_eq_true rfl, Nat.le_of_ble_eq_true rfl, Nat.le_of_ble_eq_true rfl⟩ (Nat.le_of_ble_eq_true rfl) ⟨x8, rfl, rfl, R0, by omega⟩ (fun r9 t11 pr9 => ?_)
        obtain ⟨rfl, Rt11, Ft11, br9⟩ := pr9 _ rfl
        have Ff13 := pm_Fr_mono Ft11 (M := [(16, some 0), (17, none), (18, none), (19, none), (20, none), (21, none), (22, none), (23, none)]) rfl
        have jj14 := Ft11 3 0 0 rfl
        have jj15 := Ft11 3 0 1 rfl
        have jj16 := Ft11 3 0 2 rfl
        have jj17 := Ft11 3 0 3 rfl
        have k18 : t11 3 0 1 = x2 := (Ft11 3 0 1 rfl).trans ex2
        show G 50 [some (.inr (.inr (0, 0))), some (.inl aa)] [] 122 t11
        refine px_aload_n hG dX10_code_50 rfl ?_
        refine gr_0_4 hG dX10_code_51 fl_X10_45 Rt11 ?_
        refine px_iload_n hG dX10_code_54 rfl ?_
        refine jv1 hG dX10_code_55 ct_X8_codeNumber lk_X10_249 ⟨rfl, rfl⟩ (by decide) ⟨Nat.le_of_ble_eq_true rfl, Nat.le_of_ble_eq_true rfl, Nat.le_of_ble_eq_true rfl⟩ (Nat.le_of_ble_eq_true rfl) ⟨aa, rfl, rfl, Rt11, by omega⟩ (fun r19 t21 pr19 => ?_)
        obtain ⟨x22, rfl, Rt21, Ft21, br19⟩ := pr19 _ rfl
        have Ff23 := pm_Fr_tr Ff13 Ft21 (M := [(16, some 0), (17, none), (18, none), (19, none), (20, none), (21, none), (22, none), (23, none)]) rfl
        have jj24 := Ft21 3 0 0 rfl
        have jj25 := Ft21 3 0 1 rfl
        have jj26 := Ft21 3 0 2 rfl
        have jj27 := Ft21 3 0 3 rfl
        have k28 : t21 3 0 1 = x2 := (Ft21 3 0 1 rfl).trans k18
        show G 58 [some (.inr (.inr (0, 0))), some (.inl aa)] [.inl x22] 122 t21
        have jj29 := Ff23 3 0 0 rfl
        have jj30 := Ff23 3 0 1 rfl
        have jj31 := Ff23 3 0 2 rfl
        have jj32 := Ff23 3 0 3 rfl
        exact px_iret (st := []) hG dX10_code_58 rfl rfl (fun aa_1 ee => by cases ee; exact ⟨_, rfl, Rt21, Ff23, by omega⟩)
      · refine px_bipush hG dX10_code_26 (by decide) ?_
        exact px_iret (st := []) hG dX10_code_28 rfl rfl (fun aa_1 ee => by cases ee; exact ⟨_, rfl, R0, pm_Fr_rf, by omega⟩)
    · refine px_iconst hG dX10_code_17 ?_
      exact px_iret (st := []) hG dX10_code_18 rfl rfl (fun aa_1 ee => by cases ee; exact ⟨_, rfl, R0, pm_Fr_rf, by omega⟩))
def pre_X10_decode (as : List pm_V) (n : Nat) (σ : pm_H) : Prop := ∃ aa ab ac : Int, as = [.inr (.inr (0, 0)), .inl aa, .inl ab, .inl ac] ∧ n = 122 ∧ pm_Rng σ ∧ (pm_in aa ∧ pm_in ab ∧ pm_in ac ∧ (σ 3 0 3 ≤ σ 3 0 1 ∧ (σ 3 0 0 = 2 → 0 ≤ σ 3 0 2 ∧ σ 3 0 2 ≤ 9)))
def po_X10_decode (as : List pm_V) (_ : Nat) (σ : pm_H) (r : Option pm_V) (τ : pm_H) : Prop := ∀ aa ab ac : Int, as = [.inr (.inr (0, 0)), .inl aa, .inl ab, .inl ac] → ∃ v : Int, r = some (.inl v) ∧ pm_Rng τ ∧ pm_Fr [(3, some 3), (3, some 4), (4, none), (5, none), (6, none), (7, none), (16, some 0), (17, none), (22, none), (23, none), (39, none)] σ τ ∧ ((τ 3 0 3 ≤ τ 3 0 1 ∧ (τ 3 0 0 = 2 → 0 ≤ τ 3 0 2 ∧ τ 3 0 2 ≤ 9)))
set_option maxRecDepth 20000 in
set_option maxHeartbeats 4000000 in
theorem ct_X10_decode : pm_Ct yX10_decode cX10_decode 6 (some .int) 4 0 pre_X10_decode po_X10_decode := pm_sound (ini := false) (by decide +kernel) pk_X10_decode (fun h => absurd h (by decide)) (by
  rintro as n s0 ⟨aa, ab, ac, rfl, rfl, R0, hpre⟩
  refine ⟨by decide, Nat.le_of_ble_eq_true rfl, fun G hG => ?_⟩
  have hG : pm_Rules (RX10, 4, 122, cX10_decode, -1, (fun _ => 0), false, (some .int), po_X10_decode [.inr (.inr (0, 0)), .inl aa, .inl ab, .inl ac] 122 s0) G := hG
  show G 0 [some (.inr (.inr (0, 0))), some (.inl aa), some (.inl ab), some (.inl ac), none, none] [] 122 s0
  have B0 := pb_3_0 R0
  have B1 := pb_3_1 R0
  have B2 := pb_3_2 R0
  have B3 := pb_3_3 R0
  refine px_aload_n hG dX10_decode_0 rfl ?_
  refine gr_0_0 hG dX10_decode_1 fl_X10_13 R0 ?_
  refine gi_3_1 hG dX10_decode_4 fl_X10_93 R0 (fun x1 ex1 lx1 ux1 => ?_)
  refine px_iconst hG dX10_decode_7 ?_
  refine px_isub hG dX10_decode_8 ?_
  refine px_istore hG dX10_decode_9 (Nat.le_of_ble_eq_true rfl) (L2 := [some (.inr (.inr (0, 0))), some (.inl aa), some (.inl ab), some (.inl ac), some (.inl (x1 - 1)), none]) rfl ?_
  refine px_aload_n hG dX10_decode_11 rfl ?_
  refine gr_0_8 hG dX10_decode_12 fl_X10_73 R0 ?_
  refine px_iload_n hG dX10_decode_15 rfl ?_
  refine px_iload_n hG dX10_decode_16 rfl ?_
  refine px_iload_n hG dX10_decode_17 rfl ?_
  refine px_iload hG dX10_decode_18 rfl ?_
  refine jv4 hG dX10_decode_20 ct_X6_refusal lk_X10_252 ⟨rfl, rfl⟩ (by decide) ⟨Nat.le_of_ble_eq_true rfl, Nat.le_of_ble_eq_true rfl, Nat.le_of_ble_eq_true rfl⟩ (Nat.le_of_ble_eq_true rfl) ⟨aa, ab, ac, (x1 - 1), rfl, rfl, R0, by omega⟩ (fun r2 t3 pr2 => ?_)
  obtain ⟨x4, rfl, rfl, br2⟩ := pr2 _ _ _ _ rfl
  show G 23 [some (.inr (.inr (0, 0))), some (.inl aa), some (.inl ab), some (.inl ac), some (.inl (x1 - 1)), none] [.inl x4] 122 s0
  refine px_istore hG dX10_decode_23 (Nat.le_of_ble_eq_true rfl) (L2 := [some (.inr (.inr (0, 0))), some (.inl aa), some (.inl ab), some (.inl ac), some (.inl (x1 - 1)), some (.inl x4)]) rfl ?_
  refine px_iload hG dX10_decode_25 rfl ?_
  refine px_if_eq hG dX10_decode_27 (tgt := 33) (by decide) ⟨by omega, by omega⟩ (fun c5 => ?_) (fun c5 => ?_)
  · refine px_aload_n hG dX10_decode_33 rfl ?_
    refine gr_0_0 hG dX10_decode_34 fl_X10_13 R0 ?_
    refine gi_3_0 hG dX10_decode_37 fl_X10_181 R0 (fun x6 ex6 lx6 ux6 => ?_)
    refine px_if_ne hG dX10_decode_40 (tgt := 70) (by decide) ⟨by omega, by omega⟩ (fun c7 => ?_) (fun c7 => ?_)
    · refine px_bipush hG dX10_decode_70 (by decide) ?_
      exact px_iret (st := []) hG dX10_decode_72 rfl rfl (fun aa_1 ab_1 ac_1 ee => by cases ee; exact ⟨_, rfl, R0, pm_Fr_rf, by omega⟩)
    · refine px_iload hG dX10_decode_43 rfl ?_
      refine px_if_eq hG dX10_decode_45 (tgt := 70) (by decide) ⟨by omega, by omega⟩ (fun c8 => ?_) (fun c8 => ?_)
      · refine px_bipush hG dX10_decode_70 (by decide) ?_
        exact px_iret (st := []) hG dX10_decode_72 rfl rfl (fun aa_1 ab_1 ac_1 ee => by cases ee; exact ⟨_, rfl, R0, pm_Fr_rf, by omega⟩)
      · refine px_aload_n hG dX10_decode_48 rfl ?_
        refine gr_0_8 hG dX10_decode_49 fl_X10_73 R0 ?_
        refine px_iload_n hG dX10_decode_52 rfl ?_
        refine px_iload_n hG dX10_decode_53 rfl ?_
        refine px_iload hG dX10_decode_54 rfl ?_
        refine px_iconst hG dX10_decode_56 ?_
        refine px_aload_n hG dX10_decode_57 rfl ?_
        refine gr_0_0 hG dX10_decode_58 fl_X10_13 R0 ?_
        refine gi_3_1 hG dX10_decode_61 fl_X10_93 R0 (fun x9 ex9 lx9 ux9 => ?_)
        refine jv5 hG dX10_decode_64 ct_X6_allWithin lk_X10_256 ⟨rfl, rfl⟩ (by decide) ⟨Nat.le_of_ble_eq_true rfl, Nat.le_of_ble_eq_true rfl, Nat.le_of_ble_eq_true rfl⟩ (Nat.le_of_ble_eq_true rfl) ⟨aa, ac, (x1 - 1), 0, x9, rfl, rfl, R0, by omega⟩ (fun r10 t11 pr10 => ?_)
        obtain ⟨x12, rfl, rfl, br10⟩ := pr10 _ _ _ _ _ rfl
        show G 67 [some (.inr (.inr (0, 0))), some (.inl aa), some (.inl ab), some (.inl ac), some (.inl (x1 - 1)), some (.inl x4)] [.inl x12] 122 s0
        have AW := br10.2
        refine px_if_ne hG dX10_decode_67 (tgt := 73) (by decide) ⟨by omega, by omega⟩ (fun c13 => ?_) (fun c13 => ?_)
        · refine px_aload_n hG dX10_decode_73 rfl ?_
          refine gr_0_8 hG dX10_decode_74 fl_X10_73 R0 ?_
          refine px_aload_n hG dX10_decode_77 rfl ?_
          refine gr_0_9 hG dX10_decode_78 fl_X10_77 R0 ?_
          refine px_iload_n hG dX10_decode_81 rfl ?_
          refine px_iload_n hG dX10_decode_82 rfl ?_
          refine px_iload hG dX10_decode_83 rfl ?_
          refine jv4 hG dX10_decode_85 ct_X6_copyTo lk_X10_260 ⟨rfl, rfl⟩ (by decide) ⟨Nat.le_of_ble_eq_true rfl, Nat.le_of_ble_eq_true rfl, Nat.le_of_ble_eq_true rfl⟩ (Nat.le_of_ble_eq_true rfl) ⟨aa, ac, (x1 - 1), rfl, rfl, R0, ⟨by omega, by omega, by omega, by omega, by omega, by omega, fun j h0 h1 => by have AX := AW (by omega) j h0 h1; omega⟩⟩ (fun r14 t16 pr14 => ?_)
          obtain ⟨rfl, Rt16, Ft16⟩ := pr14 _ _ _ rfl
          have Ff18 := pm_Fr_mono Ft16 (M := [(3, some 3), (3, some 4), (4, none), (5, none), (6, none), (7, none), (16, some 0), (17, none), (22, none), (23, none), (39, none)]) rfl
          have jj19 := Ft16 3 0 0 rfl
          have jj20 := Ft16 3 0 1 rfl
          have jj21 := Ft16 3 0 2 rfl
          have jj22 := Ft16 3 0 3 rfl
          have k23 : t16 3 0 1 = x1 := (Ft16 3 0 1 rfl).trans ex1
          have k24 : t16 3 0 0 = x6 := (Ft16 3 0 0 rfl).trans ex6
          show G 88 [some (.inr (.inr (0, 0))), some (.inl aa), some (.inl ab), some (.inl ac), some (.inl (x1 - 1)), some (.inl x4)] [] 122 t16
          refine px_aload_n hG dX10_decode_88 rfl ?_
          refine gr_0_4 hG dX10_decode_89 fl_X10_45 Rt16 ?_
          refine px_aload_n hG dX10_decode_92 rfl ?_
          refine gr_0_9 hG dX10_decode_93 fl_X10_77 Rt16 ?_
          refine px_aload_n hG dX10_decode_96 rfl ?_
          refine gr_0_0 hG dX10_decode_97 fl_X10_13 Rt16 ?_
          refine gi_3_1 hG dX10_decode_100 fl_X10_93 Rt16 (fun x25 ex25 lx25 ux25 => ?_)
          have ex25 : s0 3 0 1 = x25 := (Ff18 3 0 1 rfl).symm.trans ex25
          refine jv2 hG dX10_decode_103 ct_X8_parentsOfCode lk_X10_264 ⟨rfl, rfl⟩ (by decide) ⟨Nat.le_of_ble_eq_true rfl, Nat.le_of_ble_eq_true rfl, Nat.le_of_ble_eq_true rfl⟩ (Nat.le_of_ble_eq_true rfl) ⟨x25, rfl, rfl, Rt16, by omega⟩ (fun r26 t28 pr26 => ?_)
          obtain ⟨rfl, Rt28, Ft28, br26⟩ := pr26 _ rfl
          have Ff30 := pm_Fr_tr Ff18 Ft28 (M := [(3, some 3), (3, some 4), (4, none), (5, none), (6, none), (7, none), (16, some 0), (17, none), (22, none), (23, none), (39, none)]) rfl
          have jj31 := Ft28 3 0 0 rfl
          have jj32 := Ft28 3 0 1 rfl
          have jj33 := Ft28 3 0 2 rfl
          have jj34 := Ft28 3 0 3 rfl
          have k35 : t28 3 0 1 = x1 := (Ft28 3 0 1 rfl).trans k23
          have k36 : t28 3 0 0 = x6 := (Ft28 3 0 0 rfl).trans k24
          show G 106 [some (.inr (.inr (0, 0))), some (.inl aa), some (.inl ab), some (.inl ac), some (.inl (x1 - 1)), some (.inl x4)] [] 122 t28
          refine px_aload_n hG dX10_decode_106 rfl ?_
          refine gr_0_4 hG dX10_decode_107 fl_X10_45 Rt28 ?_
          refine px_aload_n hG dX10_decode_110 rfl ?_
          refine gr_0_9 hG dX10_decode_111 fl_X10_77 Rt28 ?_
          refine jv1 hG dX10_decode_114 ct_X8_wishesOfParents lk_X10_267 ⟨rfl, rfl⟩ (by decide) ⟨Nat.le_of_ble_eq_true rfl, Nat.le_of_ble_eq_true rfl, Nat.le_of_ble_eq_true rfl⟩ (Nat.le_of_ble_eq_true rfl) ⟨rfl, rfl, Rt28⟩ (fun r37 t39 pr37 => ?_)
          obtain ⟨x40, rfl, Rt39, Ft39, br37⟩ := pr37 rfl
          have Ff41 := pm_Fr_tr Ff30 Ft39 (M := [(3, some 3), (3, some 4), (4, none), (5, none), (6, none), (7, none), (16, some 0), (17, none), (22, none), (23, none), (39, none)]) rfl
          have jj42 := Ft39 3 0 0 rfl
          have jj43 := Ft39 3 0 1 rfl
          have jj44 := Ft39 3 0 2 rfl
          have jj45 := Ft39 3 0 3 rfl
          have k46 : t39 3 0 1 = x1 := (Ft39 3 0 1 rfl).trans k35
          have k47 : t39 3 0 0 = x6 := (Ft39 3 0 0 rfl).trans k36
          show G 117 [some (.inr (.inr (0, 0))), some (.inl aa), some (.inl ab), some (.inl ac), some (.inl (x1 - 1)), some (.inl x4)] [.inl x40] 122 t39
          refine px_popi hG dX10_decode_117 ?_
          refine px_aload_n hG dX10_decode_118 rfl ?_
          refine gr_0_0 hG dX10_decode_119 fl_X10_13 Rt39 ?_
          refine px_aload_n hG dX10_decode_122 rfl ?_
          refine gr_0_9 hG dX10_decode_123 fl_X10_77 Rt39 ?_
          refine px_aload_n hG dX10_decode_126 rfl ?_
          refine gr_0_0 hG dX10_decode_127 fl_X10_13 Rt39 ?_
          refine gi_3_1 hG dX10_decode_130 fl_X10_93 Rt39 (fun x48 ex48 lx48 ux48 => ?_)
          have ex48 : s0 3 0 1 = x48 := (Ff41 3 0 1 rfl).symm.trans ex48
          refine jv2 hG dX10_decode_133 ct_X5_take lk_X10_188 ⟨rfl, rfl⟩ (by decide) ⟨Nat.le_of_ble_eq_true rfl, Nat.le_of_ble_eq_true rfl, Nat.le_of_ble_eq_true rfl⟩ (Nat.le_of_ble_eq_true rfl) ⟨x48, rfl, rfl, Rt39, by omega⟩ (fun r49 t51 pr49 => ?_)
          obtain ⟨rfl, Rt51, Ft51, br49⟩ := pr49 _ rfl
          have Ff53 := pm_Fr_tr Ff41 Ft51 (M := [(3, some 3), (3, some 4), (4, none), (5, none), (6, none), (7, none), (16, some 0), (17, none), (22, none), (23, none), (39, none)]) rfl
          have jj54 := Ft51 3 0 0 rfl
          have jj55 := Ft51 3 0 1 rfl
          have jj56 := Ft51 3 0 2 rfl
          have k57 : t51 3 0 1 = x1 := (Ft51 3 0 1 rfl).trans k46
          have k58 : t51 3 0 0 = x6 := (Ft51 3 0 0 rfl).trans k47
          show G 136 [some (.inr (.inr (0, 0))), some (.inl aa), some (.inl ab), some (.inl ac), some (.inl (x1 - 1)), some (.inl x4)] [] 122 t51
          refine px_aload_n hG dX10_decode_136 rfl ?_
          refine gr_0_0 hG dX10_decode_137 fl_X10_13 Rt51 ?_
          refine gi_3_1 hG dX10_decode_140 fl_X10_93 Rt51 (fun x59 ex59 lx59 ux59 => ?_)
          have ex59 : s0 3 0 1 = x59 := (Ff53 3 0 1 rfl).symm.trans ex59
          have jj60 := Ff53 3 0 0 rfl
          have jj61 := Ff53 3 0 1 rfl
          have jj62 := Ff53 3 0 2 rfl
          exact px_iret (st := []) hG dX10_decode_143 rfl rfl (fun aa_1 ab_1 ac_1 ee => by cases ee; exact ⟨_, rfl, Rt51, Ff53, by omega⟩)
        · refine px_bipush hG dX10_decode_70 (by decide) ?_
          exact px_iret (st := []) hG dX10_decode_72 rfl rfl (fun aa_1 ab_1 ac_1 ee => by cases ee; exact ⟨_, rfl, R0, pm_Fr_rf, by omega⟩)
  · refine px_iload hG dX10_decode_30 rfl ?_
    exact px_iret (st := []) hG dX10_decode_32 rfl rfl (fun aa_1 ab_1 ac_1 ee => by cases ee; exact ⟨_, rfl, R0, pm_Fr_rf, by omega⟩))
def pre_X10_grow (as : List pm_V) (n : Nat) (σ : pm_H) : Prop := ∃ aa ab ac : Int, as = [.inr (.inr (0, 0)), .inl aa, .inl ab, .inl ac] ∧ n = 122 ∧ pm_Rng σ ∧ (pm_in aa ∧ pm_in ab ∧ pm_in ac ∧ (σ 3 0 3 ≤ σ 3 0 1 ∧ (σ 3 0 0 = 2 → 0 ≤ σ 3 0 2 ∧ σ 3 0 2 ≤ 9)))
def po_X10_grow (as : List pm_V) (_ : Nat) (σ : pm_H) (r : Option pm_V) (τ : pm_H) : Prop := ∀ aa ab ac : Int, as = [.inr (.inr (0, 0)), .inl aa, .inl ab, .inl ac] → ∃ v : Int, r = some (.inl v) ∧ pm_Rng τ ∧ pm_Fr [(3, some 3), (3, some 4), (4, none), (5, none), (6, none), (7, none), (16, some 0), (17, none), (22, none), (39, none)] σ τ ∧ ((τ 3 0 3 ≤ τ 3 0 1 ∧ (τ 3 0 0 = 2 → 0 ≤ τ 3 0 2 ∧ τ 3 0 2 ≤ 9)))
set_option maxRecDepth 20000 in
set_option maxHeartbeats 4000000 in
theorem ct_X10_grow : pm_Ct yX10_grow cX10_grow 6 (some .int) 4 0 pre_X10_grow po_X10_grow := pm_sound (ini := false) (by decide +kernel) pk_X10_grow (fun h => absurd h (by decide)) (by
  rintro as n s0 ⟨aa, ab, ac, rfl, rfl, R0, hpre⟩
  refine ⟨by decide, Nat.le_of_ble_eq_true rfl, fun G hG => ?_⟩
  have hG : pm_Rules (RX10, 4, 122, cX10_grow, -1, (fun _ => 0), false, (some .int), po_X10_grow [.inr (.inr (0, 0)), .inl aa, .inl ab, .inl ac] 122 s0) G := hG
  show G 0 [some (.inr (.inr (0, 0))), some (.inl aa), some (.inl ab), some (.inl ac), none, none] [] 122 s0
  have B0 := pb_3_0 R0
  have B1 := pb_3_1 R0
  have B2 := pb_3_2 R0
  have B3 := pb_3_3 R0
  refine px_aload_n hG dX10_grow_0 rfl ?_
  refine gr_0_0 hG dX10_grow_1 fl_X10_13 R0 ?_
  refine gi_3_1 hG dX10_grow_4 fl_X10_93 R0 (fun x1 ex1 lx1 ux1 => ?_)
  refine px_istore hG dX10_grow_7 (Nat.le_of_ble_eq_true rfl) (L2 := [some (.inr (.inr (0, 0))), some (.inl aa), some (.inl ab), some (.inl ac), some (.inl x1), none]) rfl ?_
  refine px_aload_n hG dX10_grow_9 rfl ?_
  refine gr_0_8 hG dX10_grow_10 fl_X10_73 R0 ?_
  refine px_iload_n hG dX10_grow_13 rfl ?_
  refine px_iload_n hG dX10_grow_14 rfl ?_
  refine px_iload_n hG dX10_grow_15 rfl ?_
  refine px_iload hG dX10_grow_16 rfl ?_
  refine jv4 hG dX10_grow_18 ct_X6_refusal lk_X10_252 ⟨rfl, rfl⟩ (by decide) ⟨Nat.le_of_ble_eq_true rfl, Nat.le_of_ble_eq_true rfl, Nat.le_of_ble_eq_true rfl⟩ (Nat.le_of_ble_eq_true rfl) ⟨aa, ab, ac, x1, rfl, rfl, R0, by omega⟩ (fun r2 t3 pr2 => ?_)
  obtain ⟨x4, rfl, rfl, br2⟩ := pr2 _ _ _ _ rfl
  show G 21 [some (.inr (.inr (0, 0))), some (.inl aa), some (.inl ab), some (.inl ac), some (.inl x1), none] [.inl x4] 122 s0
  refine px_istore hG dX10_grow_21 (Nat.le_of_ble_eq_true rfl) (L2 := [some (.inr (.inr (0, 0))), some (.inl aa), some (.inl ab), some (.inl ac), some (.inl x1), some (.inl x4)]) rfl ?_
  refine px_iload hG dX10_grow_23 rfl ?_
  refine px_if_eq hG dX10_grow_25 (tgt := 31) (by decide) ⟨by omega, by omega⟩ (fun c5 => ?_) (fun c5 => ?_)
  · refine px_aload_n hG dX10_grow_31 rfl ?_
    refine gr_0_0 hG dX10_grow_32 fl_X10_13 R0 ?_
    refine gi_3_0 hG dX10_grow_35 fl_X10_181 R0 (fun x6 ex6 lx6 ux6 => ?_)
    refine px_if_ne hG dX10_grow_38 (tgt := 58) (by decide) ⟨by omega, by omega⟩ (fun c7 => ?_) (fun c7 => ?_)
    · refine px_bipush hG dX10_grow_58 (by decide) ?_
      exact px_iret (st := []) hG dX10_grow_60 rfl rfl (fun aa_1 ab_1 ac_1 ee => by cases ee; exact ⟨_, rfl, R0, pm_Fr_rf, by omega⟩)
    · refine px_aload_n hG dX10_grow_41 rfl ?_
      refine gr_0_8 hG dX10_grow_42 fl_X10_73 R0 ?_
      refine px_iload_n hG dX10_grow_45 rfl ?_
      refine px_iload_n hG dX10_grow_46 rfl ?_
      refine px_iload hG dX10_grow_47 rfl ?_
      refine px_iconst hG dX10_grow_49 ?_
      refine px_iload hG dX10_grow_50 rfl ?_
      refine jv5 hG dX10_grow_52 ct_X6_allWithin lk_X10_256 ⟨rfl, rfl⟩ (by decide) ⟨Nat.le_of_ble_eq_true rfl, Nat.le_of_ble_eq_true rfl, Nat.le_of_ble_eq_true rfl⟩ (Nat.le_of_ble_eq_true rfl) ⟨aa, ac, x1, 0, x1, rfl, rfl, R0, by omega⟩ (fun r8 t9 pr8 => ?_)
      obtain ⟨x10, rfl, rfl, br8⟩ := pr8 _ _ _ _ _ rfl
      show G 55 [some (.inr (.inr (0, 0))), some (.inl aa), some (.inl ab), some (.inl ac), some (.inl x1), some (.inl x4)] [.inl x10] 122 s0
      have AW := br8.2
      refine px_if_ne hG dX10_grow_55 (tgt := 61) (by decide) ⟨by omega, by omega⟩ (fun c11 => ?_) (fun c11 => ?_)
      · refine px_aload_n hG dX10_grow_61 rfl ?_
        refine gr_0_8 hG dX10_grow_62 fl_X10_73 R0 ?_
        refine px_aload_n hG dX10_grow_65 rfl ?_
        refine gr_0_9 hG dX10_grow_66 fl_X10_77 R0 ?_
        refine px_iload_n hG dX10_grow_69 rfl ?_
        refine px_iload_n hG dX10_grow_70 rfl ?_
        refine px_iload hG dX10_grow_71 rfl ?_
        refine jv4 hG dX10_grow_73 ct_X6_copyTo lk_X10_260 ⟨rfl, rfl⟩ (by decide) ⟨Nat.le_of_ble_eq_true rfl, Nat.le_of_ble_eq_true rfl, Nat.le_of_ble_eq_true rfl⟩ (Nat.le_of_ble_eq_true rfl) ⟨aa, ac, x1, rfl, rfl, R0, ⟨by omega, by omega, by omega, by omega, by omega, by omega, fun j h0 h1 => by have AX := AW (by omega) j h0 h1; omega⟩⟩ (fun r12 t14 pr12 => ?_)
        obtain ⟨rfl, Rt14, Ft14⟩ := pr12 _ _ _ rfl
        have Ff16 := pm_Fr_mono Ft14 (M := [(3, some 3), (3, some 4), (4, none), (5, none), (6, none), (7, none), (16, some 0), (17, none), (22, none), (39, none)]) rfl
        have jj17 := Ft14 3 0 0 rfl
        have jj18 := Ft14 3 0 1 rfl
        have jj19 := Ft14 3 0 2 rfl
        have jj20 := Ft14 3 0 3 rfl
        have k21 : t14 3 0 1 = x1 := (Ft14 3 0 1 rfl).trans ex1
        have k22 : t14 3 0 0 = x6 := (Ft14 3 0 0 rfl).trans ex6
        show G 76 [some (.inr (.inr (0, 0))), some (.inl aa), some (.inl ab), some (.inl ac), some (.inl x1), some (.inl x4)] [] 122 t14
        refine px_aload_n hG dX10_grow_76 rfl ?_
        refine gr_0_4 hG dX10_grow_77 fl_X10_45 Rt14 ?_
        refine px_aload_n hG dX10_grow_80 rfl ?_
        refine gr_0_9 hG dX10_grow_81 fl_X10_77 Rt14 ?_
        refine px_iload hG dX10_grow_84 rfl ?_
        refine jv2 hG dX10_grow_86 ct_X8_takeParents lk_X10_271 ⟨rfl, rfl⟩ (by decide) ⟨Nat.le_of_ble_eq_true rfl, Nat.le_of_ble_eq_true rfl, Nat.le_of_ble_eq_true rfl⟩ (Nat.le_of_ble_eq_true rfl) ⟨x1, rfl, rfl, Rt14, by omega⟩ (fun r23 t25 pr23 => ?_)
        obtain ⟨rfl, Rt25, Ft25, br23⟩ := pr23 _ rfl
        have Ff27 := pm_Fr_tr Ff16 Ft25 (M := [(3, some 3), (3, some 4), (4, none), (5, none), (6, none), (7, none), (16, some 0), (17, none), (22, none), (39, none)]) rfl
        have jj28 := Ft25 3 0 0 rfl
        have jj29 := Ft25 3 0 1 rfl
        have jj30 := Ft25 3 0 2 rfl
        have jj31 := Ft25 3 0 3 rfl
        have k32 : t25 3 0 1 = x1 := (Ft25 3 0 1 rfl).trans k21
        have k33 : t25 3 0 0 = x6 := (Ft25 3 0 0 rfl).trans k22
        show G 89 [some (.inr (.inr (0, 0))), some (.inl aa), some (.inl ab), some (.inl ac), some (.inl x1), some (.inl x4)] [] 122 t25
        refine px_aload_n hG dX10_grow_89 rfl ?_
        refine gr_0_4 hG dX10_grow_90 fl_X10_45 Rt25 ?_
        refine px_aload_n hG dX10_grow_93 rfl ?_
        refine gr_0_9 hG dX10_grow_94 fl_X10_77 Rt25 ?_
        refine jv1 hG dX10_grow_97 ct_X8_wishesOfParents lk_X10_267 ⟨rfl, rfl⟩ (by decide) ⟨Nat.le_of_ble_eq_true rfl, Nat.le_of_ble_eq_true rfl, Nat.le_of_ble_eq_true rfl⟩ (Nat.le_of_ble_eq_true rfl) ⟨rfl, rfl, Rt25⟩ (fun r34 t36 pr34 => ?_)
        obtain ⟨x37, rfl, Rt36, Ft36, br34⟩ := pr34 rfl
        have Ff38 := pm_Fr_tr Ff27 Ft36 (M := [(3, some 3), (3, some 4), (4, none), (5, none), (6, none), (7, none), (16, some 0), (17, none), (22, none), (39, none)]) rfl
        have jj39 := Ft36 3 0 0 rfl
        have jj40 := Ft36 3 0 1 rfl
        have jj41 := Ft36 3 0 2 rfl
        have jj42 := Ft36 3 0 3 rfl
        have k43 : t36 3 0 1 = x1 := (Ft36 3 0 1 rfl).trans k32
        have k44 : t36 3 0 0 = x6 := (Ft36 3 0 0 rfl).trans k33
        show G 100 [some (.inr (.inr (0, 0))), some (.inl aa), some (.inl ab), some (.inl ac), some (.inl x1), some (.inl x4)] [.inl x37] 122 t36
        refine px_if_ne hG dX10_grow_100 (tgt := 106) (by decide) ⟨by omega, by omega⟩ (fun c45 => ?_) (fun c45 => ?_)
        · refine px_aload_n hG dX10_grow_106 rfl ?_
          refine gr_0_0 hG dX10_grow_107 fl_X10_13 Rt36 ?_
          refine px_aload_n hG dX10_grow_110 rfl ?_
          refine gr_0_9 hG dX10_grow_111 fl_X10_77 Rt36 ?_
          refine px_iload hG dX10_grow_114 rfl ?_
          refine jv2 hG dX10_grow_116 ct_X5_take lk_X10_188 ⟨rfl, rfl⟩ (by decide) ⟨Nat.le_of_ble_eq_true rfl, Nat.le_of_ble_eq_true rfl, Nat.le_of_ble_eq_true rfl⟩ (Nat.le_of_ble_eq_true rfl) ⟨x1, rfl, rfl, Rt36, by omega⟩ (fun r46 t48 pr46 => ?_)
          obtain ⟨rfl, Rt48, Ft48, br46⟩ := pr46 _ rfl
          have Ff50 := pm_Fr_tr Ff38 Ft48 (M := [(3, some 3), (3, some 4), (4, none), (5, none), (6, none), (7, none), (16, some 0), (17, none), (22, none), (39, none)]) rfl
          have jj51 := Ft48 3 0 0 rfl
          have jj52 := Ft48 3 0 1 rfl
          have jj53 := Ft48 3 0 2 rfl
          have k54 : t48 3 0 1 = x1 := (Ft48 3 0 1 rfl).trans k43
          have k55 : t48 3 0 0 = x6 := (Ft48 3 0 0 rfl).trans k44
          show G 119 [some (.inr (.inr (0, 0))), some (.inl aa), some (.inl ab), some (.inl ac), some (.inl x1), some (.inl x4)] [] 122 t48
          refine px_iload hG dX10_grow_119 rfl ?_
          have jj56 := Ff50 3 0 0 rfl
          have jj57 := Ff50 3 0 1 rfl
          have jj58 := Ff50 3 0 2 rfl
          exact px_iret (st := []) hG dX10_grow_121 rfl rfl (fun aa_1 ab_1 ac_1 ee => by cases ee; exact ⟨_, rfl, Rt48, Ff50, by omega⟩)
        · refine px_bipush hG dX10_grow_103 (by decide) ?_
          have jj59 := Ff38 3 0 0 rfl
          have jj60 := Ff38 3 0 1 rfl
          have jj61 := Ff38 3 0 2 rfl
          exact px_iret (st := []) hG dX10_grow_105 rfl rfl (fun aa_1 ab_1 ac_1 ee => by cases ee; exact ⟨_, rfl, Rt36, Ff38, by omega⟩)
      · refine px_bipush hG dX10_grow_58 (by decide) ?_
        exact px_iret (st := []) hG dX10_grow_60 rfl rfl (fun aa_1 ab_1 ac_1 ee => by cases ee; exact ⟨_, rfl, R0, pm_Fr_rf, by omega⟩)
  · refine px_iload hG dX10_grow_28 rfl ?_
    exact px_iret (st := []) hG dX10_grow_30 rfl rfl (fun aa_1 ab_1 ac_1 ee => by cases ee; exact ⟨_, rfl, R0, pm_Fr_rf, by omega⟩))
def pre_X10_cars (as : List pm_V) (n : Nat) (σ : pm_H) : Prop := ∃ aa ab ac ad : Int, as = [.inr (.inr (0, 0)), .inl aa, .inl ab, .inl ac, .inl ad] ∧ n = 122 ∧ pm_Rng σ ∧ (pm_in aa ∧ pm_in ab ∧ pm_in ac ∧ pm_in ad ∧ (σ 3 0 3 ≤ σ 3 0 1 ∧ (σ 3 0 0 = 2 → 0 ≤ σ 3 0 2 ∧ σ 3 0 2 ≤ 9)))
def po_X10_cars (as : List pm_V) (_ : Nat) (σ : pm_H) (r : Option pm_V) (τ : pm_H) : Prop := ∀ aa ab ac ad : Int, as = [.inr (.inr (0, 0)), .inl aa, .inl ab, .inl ac, .inl ad] → ∃ v : Int, r = some (.inl v) ∧ pm_Rng τ ∧ pm_Fr [(3, some 3), (3, some 4), (4, none), (5, none), (6, none), (7, none), (39, none)] σ τ ∧ ((τ 3 0 3 ≤ τ 3 0 1 ∧ (τ 3 0 0 = 2 → 0 ≤ τ 3 0 2 ∧ τ 3 0 2 ≤ 9)))
set_option maxRecDepth 20000 in
set_option maxHeartbeats 4000000 in
theorem ct_X10_cars : pm_Ct yX10_cars cX10_cars 7 (some .int) 3 0 pre_X10_cars po_X10_cars := pm_sound (ini := false) (by decide +kernel) pk_X10_cars (fun h => absurd h (by decide)) (by
  rintro as n s0 ⟨aa, ab, ac, ad, rfl, rfl, R0, hpre⟩
  refine ⟨by decide, Nat.le_of_ble_eq_true rfl, fun G hG => ?_⟩
  have hG : pm_Rules (RX10, 3, 122, cX10_cars, -1, (fun _ => 0), false, (some .int), po_X10_cars [.inr (.inr (0, 0)), .inl aa, .inl ab, .inl ac, .inl ad] 122 s0) G := hG
  show G 0 [some (.inr (.inr (0, 0))), some (.inl aa), some (.inl ab), some (.inl ac), some (.inl ad), none, none] [] 122 s0
  have B0 := pb_3_0 R0
  have B1 := pb_3_1 R0
  have B2 := pb_3_2 R0
  have B3 := pb_3_3 R0
  refine px_iload hG dX10_cars_0 rfl ?_
  refine px_if_lt hG dX10_cars_2 (tgt := 12) (by decide) ⟨by omega, by omega⟩ (fun c1 => ?_) (fun c1 => ?_)
  · refine px_iconst hG dX10_cars_12 ?_
    exact px_iret (st := []) hG dX10_cars_13 rfl rfl (fun aa_1 ab_1 ac_1 ad_1 ee => by cases ee; exact ⟨_, rfl, R0, pm_Fr_rf, by omega⟩)
  · refine px_iload hG dX10_cars_5 rfl ?_
    refine px_bipush hG dX10_cars_7 (by decide) ?_
    refine px_ic_le hG dX10_cars_9 (tgt := 14) (by decide) ⟨by omega, by omega⟩ ⟨by omega, by omega⟩ (fun c2 => ?_) (fun c2 => ?_)
    · refine px_aload_n hG dX10_cars_14 rfl ?_
      refine gr_0_8 hG dX10_cars_15 fl_X10_73 R0 ?_
      refine px_iload_n hG dX10_cars_18 rfl ?_
      refine px_iload_n hG dX10_cars_19 rfl ?_
      refine px_iload_n hG dX10_cars_20 rfl ?_
      refine px_iload hG dX10_cars_21 rfl ?_
      refine jv4 hG dX10_cars_23 ct_X6_refusal lk_X10_252 ⟨rfl, rfl⟩ (by decide) ⟨Nat.le_of_ble_eq_true rfl, Nat.le_of_ble_eq_true rfl, Nat.le_of_ble_eq_true rfl⟩ (Nat.le_of_ble_eq_true rfl) ⟨aa, ab, ac, ad, rfl, rfl, R0, by omega⟩ (fun r3 t4 pr3 => ?_)
      obtain ⟨x5, rfl, rfl, br3⟩ := pr3 _ _ _ _ rfl
      show G 26 [some (.inr (.inr (0, 0))), some (.inl aa), some (.inl ab), some (.inl ac), some (.inl ad), none, none] [.inl x5] 122 s0
      refine px_istore hG dX10_cars_26 (Nat.le_of_ble_eq_true rfl) (L2 := [some (.inr (.inr (0, 0))), some (.inl aa), some (.inl ab), some (.inl ac), some (.inl ad), some (.inl x5), none]) rfl ?_
      refine px_iload hG dX10_cars_28 rfl ?_
      refine px_if_eq hG dX10_cars_30 (tgt := 36) (by decide) ⟨by omega, by omega⟩ (fun c6 => ?_) (fun c6 => ?_)
      · refine px_aload_n hG dX10_cars_36 rfl ?_
        refine gr_0_8 hG dX10_cars_37 fl_X10_73 R0 ?_
        refine px_iload_n hG dX10_cars_40 rfl ?_
        refine px_iload_n hG dX10_cars_41 rfl ?_
        refine px_iload hG dX10_cars_42 rfl ?_
        refine px_iconst hG dX10_cars_44 ?_
        refine px_aload_n hG dX10_cars_45 rfl ?_
        refine gr_0_0 hG dX10_cars_46 fl_X10_13 R0 ?_
        refine gi_3_1 hG dX10_cars_49 fl_X10_93 R0 (fun x7 ex7 lx7 ux7 => ?_)
        refine jv5 hG dX10_cars_52 ct_X6_allWithin lk_X10_256 ⟨rfl, rfl⟩ (by decide) ⟨Nat.le_of_ble_eq_true rfl, Nat.le_of_ble_eq_true rfl, Nat.le_of_ble_eq_true rfl⟩ (Nat.le_of_ble_eq_true rfl) ⟨aa, ac, ad, 1, x7, rfl, rfl, R0, by omega⟩ (fun r8 t9 pr8 => ?_)
        obtain ⟨x10, rfl, rfl, br8⟩ := pr8 _ _ _ _ _ rfl
        show G 55 [some (.inr (.inr (0, 0))), some (.inl aa), some (.inl ab), some (.inl ac), some (.inl ad), some (.inl x5), none] [.inl x10] 122 s0
        have AW := br8.2
        refine px_if_ne hG dX10_cars_55 (tgt := 61) (by decide) ⟨by omega, by omega⟩ (fun c11 => ?_) (fun c11 => ?_)
        · refine px_aload_n hG dX10_cars_61 rfl ?_
          refine gr_0_0 hG dX10_cars_62 fl_X10_13 R0 ?_
          refine gi_3_3 hG dX10_cars_65 fl_X10_89 R0 (fun x12 ex12 lx12 ux12 => ?_)
          refine px_iload hG dX10_cars_68 rfl ?_
          refine px_iadd hG dX10_cars_70 ?_
          refine px_aload_n hG dX10_cars_71 rfl ?_
          refine gr_0_0 hG dX10_cars_72 fl_X10_13 R0 ?_
          refine gi_3_1 hG dX10_cars_75 fl_X10_93 R0 (fun x13 ex13 lx13 ux13 => ?_)
          refine px_ic_le hG dX10_cars_78 (tgt := 84) (by decide) ⟨by omega, by omega⟩ ⟨by omega, by omega⟩ (fun c14 => ?_) (fun c14 => ?_)
          · refine px_aload_n hG dX10_cars_84 rfl ?_
            refine gr_0_8 hG dX10_cars_85 fl_X10_73 R0 ?_
            refine px_aload_n hG dX10_cars_88 rfl ?_
            refine gr_0_9 hG dX10_cars_89 fl_X10_77 R0 ?_
            refine px_iload_n hG dX10_cars_92 rfl ?_
            refine px_iload_n hG dX10_cars_93 rfl ?_
            refine px_iload hG dX10_cars_94 rfl ?_
            refine jv4 hG dX10_cars_96 ct_X6_copyTo lk_X10_260 ⟨rfl, rfl⟩ (by decide) ⟨Nat.le_of_ble_eq_true rfl, Nat.le_of_ble_eq_true rfl, Nat.le_of_ble_eq_true rfl⟩ (Nat.le_of_ble_eq_true rfl) ⟨aa, ac, ad, rfl, rfl, R0, ⟨by omega, by omega, by omega, by omega, by omega, by omega, fun j h0 h1 => by have AX := AW (by omega) j h0 h1; omega⟩⟩ (fun r15 t17 pr15 => ?_)
            obtain ⟨rfl, Rt17, Ft17⟩ := pr15 _ _ _ rfl
            have Ff19 := pm_Fr_mono Ft17 (M := [(3, some 3), (3, some 4), (4, none), (5, none), (6, none), (7, none), (39, none)]) rfl
            have jj20 := Ft17 3 0 0 rfl
            have jj21 := Ft17 3 0 1 rfl
            have jj22 := Ft17 3 0 2 rfl
            have jj23 := Ft17 3 0 3 rfl
            have k24 : t17 3 0 1 = x7 := (Ft17 3 0 1 rfl).trans ex7
            have k25 : t17 3 0 3 = x12 := (Ft17 3 0 3 rfl).trans ex12
            show G 99 [some (.inr (.inr (0, 0))), some (.inl aa), some (.inl ab), some (.inl ac), some (.inl ad), some (.inl x5), none] [] 122 t17
            refine px_iconst hG dX10_cars_99 ?_
            refine px_istore hG dX10_cars_100 (Nat.le_of_ble_eq_true rfl) (L2 := [some (.inr (.inr (0, 0))), some (.inl aa), some (.inl ab), some (.inl ac), some (.inl ad), some (.inl x5), some (.inl 1)]) rfl ?_
            have L102 : ∀ (N : Nat) (v6_26 : Int) (s27 : pm_H), pm_Rng s27 → pm_Fr [(3, some 3), (3, some 4), (4, none), (5, none), (6, none), (7, none), (39, none)] s0 s27 → s27 3 0 1 = x7 → ((1 ≤ v6_26 ∧ v6_26 ≤ 10000) ∧ (s27 3 0 3 = s0 3 0 3 + v6_26 - 1 ∧ v6_26 ≤ ad + 1)) → (10001 - v6_26).toNat < N → G 102 [some (.inr (.inr (0, 0))), none, none, none, some (.inl ad), none, some (.inl v6_26)] [] 122 s27 := by
              intro N
              induction N with
              | zero => intro v6_26 s27 R28 F29 k31 inv32 hm33; exact absurd hm33 (Nat.not_lt_zero _)
              | succ N ih30 =>
                intro v6_26 s27 R28 F29 k31 inv32 hm33
                have jj34 := F29 3 0 0 rfl
                have jj35 := F29 3 0 1 rfl
                have jj36 := F29 3 0 2 rfl
                refine px_iload hG dX10_cars_102 rfl ?_
                refine px_iload hG dX10_cars_104 rfl ?_
                have J129_38 : ((v6_26 > ad)) → G 129 [some (.inr (.inr (0, 0))), none, none, none, none, none, none] [] 122 s27 := by
                  intro inv39
                  refine px_aload_n hG dX10_cars_129 rfl ?_
                  refine gr_0_0 hG dX10_cars_130 fl_X10_13 R28 ?_
                  refine jv0 hG dX10_cars_133 ct_X5_settle lk_X10_100 ⟨rfl, rfl⟩ (by decide) ⟨Nat.le_of_ble_eq_true rfl, Nat.le_of_ble_eq_true rfl, Nat.le_of_ble_eq_true rfl⟩ (Nat.le_of_ble_eq_true rfl) ⟨rfl, rfl, R28, by omega⟩ (fun r40 t42 pr40 => ?_)
                  obtain ⟨rfl, Rt42, Ft42⟩ := pr40 rfl
                  have Ff44 := pm_Fr_tr F29 Ft42 (M := [(3, some 3), (3, some 4), (4, none), (5, none), (6, none), (7, none), (39, none)]) rfl
                  have jj45 := Ft42 3 0 0 rfl
                  have jj46 := Ft42 3 0 1 rfl
                  have jj47 := Ft42 3 0 2 rfl
                  have jj48 := Ft42 3 0 3 rfl
                  have k49 : t42 3 0 1 = x7 := (Ft42 3 0 1 rfl).trans k31
                  show G 136 [some (.inr (.inr (0, 0))), none, none, none, none, none, none] [] 122 t42
                  refine px_aload_n hG dX10_cars_136 rfl ?_
                  refine gr_0_0 hG dX10_cars_137 fl_X10_13 Rt42 ?_
                  refine gi_3_3 hG dX10_cars_140 fl_X10_89 Rt42 (fun x50 ex50 lx50 ux50 => ?_)
                  have jj51 := Ff44 3 0 0 rfl
                  have jj52 := Ff44 3 0 1 rfl
                  have jj53 := Ff44 3 0 2 rfl
                  exact px_iret (st := []) hG dX10_cars_143 rfl rfl (fun aa_1 ab_1 ac_1 ad_1 ee => by cases ee; exact ⟨_, rfl, Rt42, Ff44, by omega⟩)
                refine px_ic_gt hG dX10_cars_106 (tgt := 129) (by decide) ⟨by omega, by omega⟩ ⟨by omega, by omega⟩ (fun c37 => ?_) (fun c37 => ?_)
                · refine px_weak hG (L2 := [some (.inr (.inr (0, 0))), none, none, none, none, none, none]) ⟨Or.inr rfl, Or.inr rfl, Or.inr rfl, Or.inr rfl, Or.inl rfl, Or.inr rfl, Or.inl rfl, trivial⟩ ?_
                  exact J129_38  (by omega)
                · refine px_aload_n hG dX10_cars_109 rfl ?_
                  refine gr_0_0 hG dX10_cars_110 fl_X10_13 R28 ?_
                  refine px_aload_n hG dX10_cars_113 rfl ?_
                  refine gr_0_9 hG dX10_cars_114 fl_X10_77 R28 ?_
                  refine px_iload hG dX10_cars_117 rfl ?_
                  refine al_39 hG dX10_cars_119 R28 (by omega) (fun x54 ex54 lx54 ux54 => ?_)
                  refine jv1 hG dX10_cars_120 ct_X5_add lk_X10_96 ⟨rfl, rfl⟩ (by decide) ⟨Nat.le_of_ble_eq_true rfl, Nat.le_of_ble_eq_true rfl, Nat.le_of_ble_eq_true rfl⟩ (Nat.le_of_ble_eq_true rfl) ⟨x54, rfl, rfl, R28, by omega⟩ (fun r55 t57 pr55 => ?_)
                  obtain ⟨rfl, Rt57, Ft57, br55⟩ := pr55 _ rfl
                  have Ff59 := pm_Fr_tr F29 Ft57 (M := [(3, some 3), (3, some 4), (4, none), (5, none), (6, none), (7, none), (39, none)]) rfl
                  have jj60 := Ft57 3 0 0 rfl
                  have jj61 := Ft57 3 0 1 rfl
                  have jj62 := Ft57 3 0 2 rfl
                  have k63 : t57 3 0 1 = x7 := (Ft57 3 0 1 rfl).trans k31
                  show G 123 [some (.inr (.inr (0, 0))), none, none, none, some (.inl ad), none, some (.inl v6_26)] [] 122 t57
                  refine px_iinc hG dX10_cars_123 (Nat.le_of_ble_eq_true rfl) rfl (L2 := [some (.inr (.inr (0, 0))), none, none, none, some (.inl ad), none, some (.inl (v6_26 + 1))]) rfl ?_
                  refine px_goto hG dX10_cars_126 (tgt := 102) (by decide) ?_
                  exact ih30 (v6_26 + 1) t57 Rt57 Ff59 k63 (⟨by omega, by omega⟩) (by omega)
            refine px_weak hG (L2 := [some (.inr (.inr (0, 0))), none, none, none, some (.inl ad), none, some (.inl 1)]) ⟨Or.inr rfl, Or.inl rfl, Or.inl rfl, Or.inl rfl, Or.inr rfl, Or.inl rfl, Or.inr rfl, trivial⟩ ?_
            exact L102 _ 1 t17 Rt17 Ff19 k24 (⟨by omega, by omega⟩) (Nat.lt_succ_self _)
          · refine px_bipush hG dX10_cars_81 (by decide) ?_
            exact px_iret (st := []) hG dX10_cars_83 rfl rfl (fun aa_1 ab_1 ac_1 ad_1 ee => by cases ee; exact ⟨_, rfl, R0, pm_Fr_rf, by omega⟩)
        · refine px_bipush hG dX10_cars_58 (by decide) ?_
          exact px_iret (st := []) hG dX10_cars_60 rfl rfl (fun aa_1 ab_1 ac_1 ad_1 ee => by cases ee; exact ⟨_, rfl, R0, pm_Fr_rf, by omega⟩)
      · refine px_iload hG dX10_cars_33 rfl ?_
        exact px_iret (st := []) hG dX10_cars_35 rfl rfl (fun aa_1 ab_1 ac_1 ad_1 ee => by cases ee; exact ⟨_, rfl, R0, pm_Fr_rf, by omega⟩)
    · refine px_iconst hG dX10_cars_12 ?_
      exact px_iret (st := []) hG dX10_cars_13 rfl rfl (fun aa_1 ab_1 ac_1 ad_1 ee => by cases ee; exact ⟨_, rfl, R0, pm_Fr_rf, by omega⟩))
def pre_X10_walk (as : List pm_V) (n : Nat) (σ : pm_H) : Prop := ∃ aa ab : Int, as = [.inr (.inr (0, 0)), .inl aa, .inl ab] ∧ n = 122 ∧ pm_Rng σ ∧ (pm_in aa ∧ pm_in ab ∧ (σ 3 0 3 ≤ σ 3 0 1 ∧ (σ 3 0 0 = 2 → 0 ≤ σ 3 0 2 ∧ σ 3 0 2 ≤ 9)))
def po_X10_walk (as : List pm_V) (_ : Nat) (σ : pm_H) (r : Option pm_V) (τ : pm_H) : Prop := ∀ aa ab : Int, as = [.inr (.inr (0, 0)), .inl aa, .inl ab] → ∃ v : Int, r = some (.inl v) ∧ pm_Rng τ ∧ pm_Fr [(24, some 0), (25, none), (26, none)] σ τ ∧ ((τ 3 0 3 ≤ τ 3 0 1 ∧ (τ 3 0 0 = 2 → 0 ≤ τ 3 0 2 ∧ τ 3 0 2 ≤ 9)))
set_option maxRecDepth 20000 in
set_option maxHeartbeats 4000000 in
theorem ct_X10_walk : pm_Ct yX10_walk cX10_walk 3 (some .int) 5 0 pre_X10_walk po_X10_walk := pm_sound (ini := false) (by decide +kernel) pk_X10_walk (fun h => absurd h (by decide)) (by
  rintro as n s0 ⟨aa, ab, rfl, rfl, R0, hpre⟩
  refine ⟨by decide, Nat.le_of_ble_eq_true rfl, fun G hG => ?_⟩
  have hG : pm_Rules (RX10, 5, 122, cX10_walk, -1, (fun _ => 0), false, (some .int), po_X10_walk [.inr (.inr (0, 0)), .inl aa, .inl ab] 122 s0) G := hG
  show G 0 [some (.inr (.inr (0, 0))), some (.inl aa), some (.inl ab)] [] 122 s0
  have B0 := pb_3_0 R0
  have B1 := pb_3_1 R0
  have B2 := pb_3_2 R0
  have B3 := pb_3_3 R0
  refine px_aload_n hG dX10_walk_0 rfl ?_
  refine gr_0_0 hG dX10_walk_1 fl_X10_13 R0 ?_
  refine px_iload_n hG dX10_walk_4 rfl ?_
  refine jv1 hG dX10_walk_5 ct_X5_hasPlace lk_X10_85 ⟨rfl, rfl⟩ (by decide) ⟨Nat.le_of_ble_eq_true rfl, Nat.le_of_ble_eq_true rfl, Nat.le_of_ble_eq_true rfl⟩ (Nat.le_of_ble_eq_true rfl) ⟨aa, rfl, rfl, R0, by omega⟩ (fun r1 t2 pr1 => ?_)
  obtain ⟨x3, rfl, rfl, br1⟩ := pr1 _ rfl
  show G 8 [some (.inr (.inr (0, 0))), some (.inl aa), some (.inl ab)] [.inl x3] 122 s0
  refine px_if_eq hG dX10_walk_8 (tgt := 20) (by decide) ⟨by omega, by omega⟩ (fun c4 => ?_) (fun c4 => ?_)
  · refine px_iconst hG dX10_walk_20 ?_
    exact px_iret (st := []) hG dX10_walk_21 rfl rfl (fun aa_1 ab_1 ee => by cases ee; exact ⟨_, rfl, R0, pm_Fr_rf, by omega⟩)
  · refine px_iload_n hG dX10_walk_11 rfl ?_
    refine px_if_lt hG dX10_walk_12 (tgt := 20) (by decide) ⟨by omega, by omega⟩ (fun c5 => ?_) (fun c5 => ?_)
    · refine px_iconst hG dX10_walk_20 ?_
      exact px_iret (st := []) hG dX10_walk_21 rfl rfl (fun aa_1 ab_1 ee => by cases ee; exact ⟨_, rfl, R0, pm_Fr_rf, by omega⟩)
    · refine px_iload_n hG dX10_walk_15 rfl ?_
      refine px_iconst hG dX10_walk_16 ?_
      refine px_ic_le hG dX10_walk_17 (tgt := 22) (by decide) ⟨by omega, by omega⟩ ⟨by omega, by omega⟩ (fun c6 => ?_) (fun c6 => ?_)
      · refine px_aload_n hG dX10_walk_22 rfl ?_
        refine jv0 hG dX10_walk_23 ct_X10_hasTree lk_X10_212 ⟨rfl, rfl⟩ (by decide) ⟨Nat.le_of_ble_eq_true rfl, Nat.le_of_ble_eq_true rfl, Nat.le_of_ble_eq_true rfl⟩ (Nat.le_of_ble_eq_true rfl) ⟨rfl, rfl, R0, by omega⟩ (fun r7 t8 pr7 => ?_)
        obtain ⟨x9, rfl, rfl, br7⟩ := pr7 rfl
        show G 26 [some (.inr (.inr (0, 0))), some (.inl aa), some (.inl ab)] [.inl x9] 122 s0
        refine px_if_ne hG dX10_walk_26 (tgt := 32) (by decide) ⟨by omega, by omega⟩ (fun c10 => ?_) (fun c10 => ?_)
        · refine px_aload_n hG dX10_walk_32 rfl ?_
          refine gr_0_5 hG dX10_walk_33 fl_X10_52 R0 ?_
          refine px_aload_n hG dX10_walk_36 rfl ?_
          refine gr_0_0 hG dX10_walk_37 fl_X10_13 R0 ?_
          refine gr_3_5 hG dX10_walk_40 fl_X10_106 R0 ?_
          refine px_aload_n hG dX10_walk_43 rfl ?_
          refine gr_0_0 hG dX10_walk_44 fl_X10_13 R0 ?_
          refine gi_3_1 hG dX10_walk_47 fl_X10_93 R0 (fun x11 ex11 lx11 ux11 => ?_)
          refine jv2 hG dX10_walk_50 ct_X9_build lk_X10_274 ⟨rfl, rfl⟩ (by decide) ⟨Nat.le_of_ble_eq_true rfl, Nat.le_of_ble_eq_true rfl, Nat.le_of_ble_eq_true rfl⟩ (Nat.le_of_ble_eq_true rfl) ⟨x11, rfl, rfl, R0, by omega⟩ (fun r12 t14 pr12 => ?_)
          obtain ⟨rfl, Rt14, Ft14, br12⟩ := pr12 _ rfl
          have Ff16 := pm_Fr_mono Ft14 (M := [(24, some 0), (25, none), (26, none)]) rfl
          have jj17 := Ft14 3 0 0 rfl
          have jj18 := Ft14 3 0 1 rfl
          have jj19 := Ft14 3 0 2 rfl
          have jj20 := Ft14 3 0 3 rfl
          have k21 : t14 3 0 1 = x11 := (Ft14 3 0 1 rfl).trans ex11
          show G 53 [some (.inr (.inr (0, 0))), some (.inl aa), some (.inl ab)] [] 122 t14
          refine px_iload_n hG dX10_walk_53 rfl ?_
          refine px_if_ne hG dX10_walk_54 (tgt := 69) (by decide) ⟨by omega, by omega⟩ (fun c22 => ?_) (fun c22 => ?_)
          · refine px_aload_n hG dX10_walk_69 rfl ?_
            refine gr_0_5 hG dX10_walk_70 fl_X10_52 Rt14 ?_
            refine gr_24_2 hG dX10_walk_73 fl_X10_278 Rt14 ?_
            refine px_iload_n hG dX10_walk_76 rfl ?_
            refine al_26 hG dX10_walk_77 Rt14 (by omega) (fun x23 ex23 lx23 ux23 => ?_)
            have jj24 := Ff16 3 0 0 rfl
            have jj25 := Ff16 3 0 1 rfl
            have jj26 := Ff16 3 0 2 rfl
            have jj27 := Ff16 3 0 3 rfl
            exact px_iret (st := []) hG dX10_walk_78 rfl rfl (fun aa_1 ab_1 ee => by cases ee; exact ⟨_, rfl, Rt14, Ff16, by omega⟩)
          · refine px_aload_n hG dX10_walk_57 rfl ?_
            refine gr_0_5 hG dX10_walk_58 fl_X10_52 Rt14 ?_
            refine gr_24_1 hG dX10_walk_61 fl_X10_275 Rt14 ?_
            refine px_iload_n hG dX10_walk_64 rfl ?_
            refine al_25 hG dX10_walk_65 Rt14 (by omega) (fun x28 ex28 lx28 ux28 => ?_)
            refine px_goto hG dX10_walk_66 (tgt := 78) (by decide) ?_
            have jj29 := Ff16 3 0 0 rfl
            have jj30 := Ff16 3 0 1 rfl
            have jj31 := Ff16 3 0 2 rfl
            have jj32 := Ff16 3 0 3 rfl
            exact px_iret (st := []) hG dX10_walk_78 rfl rfl (fun aa_1 ab_1 ee => by cases ee; exact ⟨_, rfl, Rt14, Ff16, by omega⟩)
        · refine px_bipush hG dX10_walk_29 (by decide) ?_
          exact px_iret (st := []) hG dX10_walk_31 rfl rfl (fun aa_1 ab_1 ee => by cases ee; exact ⟨_, rfl, R0, pm_Fr_rf, by omega⟩)
      · refine px_iconst hG dX10_walk_20 ?_
        exact px_iret (st := []) hG dX10_walk_21 rfl rfl (fun aa_1 ab_1 ee => by cases ee; exact ⟨_, rfl, R0, pm_Fr_rf, by omega⟩))
def pre_X10_counts (as : List pm_V) (n : Nat) (σ : pm_H) : Prop := ∃ aa : Int, as = [.inr (.inr (0, 0)), .inl aa] ∧ n = 122 ∧ pm_Rng σ ∧ (pm_in aa ∧ (σ 3 0 3 ≤ σ 3 0 1 ∧ (σ 3 0 0 = 2 → 0 ≤ σ 3 0 2 ∧ σ 3 0 2 ≤ 9)))
def po_X10_counts (as : List pm_V) (_ : Nat) (σ : pm_H) (r : Option pm_V) (τ : pm_H) : Prop := ∀ aa : Int, as = [.inr (.inr (0, 0)), .inl aa] → ∃ v : Int, r = some (.inl v) ∧ pm_Rng τ ∧ pm_Fr [(24, some 0), (25, none), (26, none)] σ τ ∧ ((τ 3 0 3 ≤ τ 3 0 1 ∧ (τ 3 0 0 = 2 → 0 ≤ τ 3 0 2 ∧ τ 3 0 2 ≤ 9)))
set_option maxRecDepth 20000 in
set_option maxHeartbeats 4000000 in
theorem ct_X10_counts : pm_Ct yX10_counts cX10_counts 2 (some .int) 5 0 pre_X10_counts po_X10_counts := pm_sound (ini := false) (by decide +kernel) pk_X10_counts (fun h => absurd h (by decide)) (by
  rintro as n s0 ⟨aa, rfl, rfl, R0, hpre⟩
  refine ⟨by decide, Nat.le_of_ble_eq_true rfl, fun G hG => ?_⟩
  have hG : pm_Rules (RX10, 5, 122, cX10_counts, -1, (fun _ => 0), false, (some .int), po_X10_counts [.inr (.inr (0, 0)), .inl aa] 122 s0) G := hG
  show G 0 [some (.inr (.inr (0, 0))), some (.inl aa)] [] 122 s0
  have B0 := pb_3_0 R0
  have B1 := pb_3_1 R0
  have B2 := pb_3_2 R0
  have B3 := pb_3_3 R0
  refine px_iload_n hG dX10_counts_0 rfl ?_
  refine px_if_lt hG dX10_counts_1 (tgt := 9) (by decide) ⟨by omega, by omega⟩ (fun c1 => ?_) (fun c1 => ?_)
  · refine px_iconst hG dX10_counts_9 ?_
    exact px_iret (st := []) hG dX10_counts_10 rfl rfl (fun aa_1 ee => by cases ee; exact ⟨_, rfl, R0, pm_Fr_rf, by omega⟩)
  · refine px_iload_n hG dX10_counts_4 rfl ?_
    refine px_iconst hG dX10_counts_5 ?_
    refine px_ic_le hG dX10_counts_6 (tgt := 11) (by decide) ⟨by omega, by omega⟩ ⟨by omega, by omega⟩ (fun c2 => ?_) (fun c2 => ?_)
    · refine px_aload_n hG dX10_counts_11 rfl ?_
      refine jv0 hG dX10_counts_12 ct_X10_hasTree lk_X10_212 ⟨rfl, rfl⟩ (by decide) ⟨Nat.le_of_ble_eq_true rfl, Nat.le_of_ble_eq_true rfl, Nat.le_of_ble_eq_true rfl⟩ (Nat.le_of_ble_eq_true rfl) ⟨rfl, rfl, R0, by omega⟩ (fun r3 t4 pr3 => ?_)
      obtain ⟨x5, rfl, rfl, br3⟩ := pr3 rfl
      show G 15 [some (.inr (.inr (0, 0))), some (.inl aa)] [.inl x5] 122 s0
      refine px_if_ne hG dX10_counts_15 (tgt := 21) (by decide) ⟨by omega, by omega⟩ (fun c6 => ?_) (fun c6 => ?_)
      · refine px_aload_n hG dX10_counts_21 rfl ?_
        refine gr_0_5 hG dX10_counts_22 fl_X10_52 R0 ?_
        refine px_aload_n hG dX10_counts_25 rfl ?_
        refine gr_0_0 hG dX10_counts_26 fl_X10_13 R0 ?_
        refine gr_3_5 hG dX10_counts_29 fl_X10_106 R0 ?_
        refine px_aload_n hG dX10_counts_32 rfl ?_
        refine gr_0_0 hG dX10_counts_33 fl_X10_13 R0 ?_
        refine gi_3_1 hG dX10_counts_36 fl_X10_93 R0 (fun x7 ex7 lx7 ux7 => ?_)
        refine jv2 hG dX10_counts_39 ct_X9_build lk_X10_274 ⟨rfl, rfl⟩ (by decide) ⟨Nat.le_of_ble_eq_true rfl, Nat.le_of_ble_eq_true rfl, Nat.le_of_ble_eq_true rfl⟩ (Nat.le_of_ble_eq_true rfl) ⟨x7, rfl, rfl, R0, by omega⟩ (fun r8 t10 pr8 => ?_)
        obtain ⟨rfl, Rt10, Ft10, br8⟩ := pr8 _ rfl
        have Ff12 := pm_Fr_mono Ft10 (M := [(24, some 0), (25, none), (26, none)]) rfl
        have jj13 := Ft10 3 0 0 rfl
        have jj14 := Ft10 3 0 1 rfl
        have jj15 := Ft10 3 0 2 rfl
        have jj16 := Ft10 3 0 3 rfl
        have k17 : t10 3 0 1 = x7 := (Ft10 3 0 1 rfl).trans ex7
        show G 42 [some (.inr (.inr (0, 0))), some (.inl aa)] [] 122 t10
        refine px_iload_n hG dX10_counts_42 rfl ?_
        refine px_if_ne hG dX10_counts_43 (tgt := 56) (by decide) ⟨by omega, by omega⟩ (fun c18 => ?_) (fun c18 => ?_)
        · refine px_aload_n hG dX10_counts_56 rfl ?_
          refine gr_0_5 hG dX10_counts_57 fl_X10_52 Rt10 ?_
          refine jv0 hG dX10_counts_60 ct_X9_dinv lk_X10_284 ⟨rfl, rfl⟩ (by decide) ⟨Nat.le_of_ble_eq_true rfl, Nat.le_of_ble_eq_true rfl, Nat.le_of_ble_eq_true rfl⟩ (Nat.le_of_ble_eq_true rfl) ⟨rfl, rfl, Rt10⟩ (fun r19 t20 pr19 => ?_)
          obtain ⟨x21, rfl, rfl, br19⟩ := pr19 rfl
          show G 63 [some (.inr (.inr (0, 0))), some (.inl aa)] [.inl x21] 122 t10
          have jj22 := Ff12 3 0 0 rfl
          have jj23 := Ff12 3 0 1 rfl
          have jj24 := Ff12 3 0 2 rfl
          have jj25 := Ff12 3 0 3 rfl
          exact px_iret (st := []) hG dX10_counts_63 rfl rfl (fun aa_1 ee => by cases ee; exact ⟨_, rfl, Rt10, Ff12, by omega⟩)
        · refine px_aload_n hG dX10_counts_46 rfl ?_
          refine gr_0_5 hG dX10_counts_47 fl_X10_52 Rt10 ?_
          refine jv0 hG dX10_counts_50 ct_X9_area lk_X10_281 ⟨rfl, rfl⟩ (by decide) ⟨Nat.le_of_ble_eq_true rfl, Nat.le_of_ble_eq_true rfl, Nat.le_of_ble_eq_true rfl⟩ (Nat.le_of_ble_eq_true rfl) ⟨rfl, rfl, Rt10⟩ (fun r26 t27 pr26 => ?_)
          obtain ⟨x28, rfl, rfl, br26⟩ := pr26 rfl
          show G 53 [some (.inr (.inr (0, 0))), some (.inl aa)] [.inl x28] 122 t10
          refine px_goto hG dX10_counts_53 (tgt := 63) (by decide) ?_
          have jj29 := Ff12 3 0 0 rfl
          have jj30 := Ff12 3 0 1 rfl
          have jj31 := Ff12 3 0 2 rfl
          have jj32 := Ff12 3 0 3 rfl
          exact px_iret (st := []) hG dX10_counts_63 rfl rfl (fun aa_1 ee => by cases ee; exact ⟨_, rfl, Rt10, Ff12, by omega⟩)
      · refine px_bipush hG dX10_counts_18 (by decide) ?_
        exact px_iret (st := []) hG dX10_counts_20 rfl rfl (fun aa_1 ee => by cases ee; exact ⟨_, rfl, R0, pm_Fr_rf, by omega⟩)
    · refine px_iconst hG dX10_counts_9 ?_
      exact px_iret (st := []) hG dX10_counts_10 rfl rfl (fun aa_1 ee => by cases ee; exact ⟨_, rfl, R0, pm_Fr_rf, by omega⟩))
def pre_X10_both (as : List pm_V) (n : Nat) (σ : pm_H) : Prop := ∃ aa ab ac : Int, as = [.inr (.inr (0, 0)), .inl aa, .inl ab, .inl ac] ∧ n = 122 ∧ pm_Rng σ ∧ (pm_in aa ∧ pm_in ab ∧ pm_in ac ∧ (σ 3 0 3 ≤ σ 3 0 1 ∧ (σ 3 0 0 = 2 → 0 ≤ σ 3 0 2 ∧ σ 3 0 2 ≤ 9)))
def po_X10_both (as : List pm_V) (_ : Nat) (σ : pm_H) (r : Option pm_V) (τ : pm_H) : Prop := ∀ aa ab ac : Int, as = [.inr (.inr (0, 0)), .inl aa, .inl ab, .inl ac] → ∃ v : Int, r = some (.inl v) ∧ pm_Rng τ ∧ pm_Fr [(24, some 0), (25, none), (26, none), (28, none), (29, none), (30, none)] σ τ ∧ ((τ 3 0 3 ≤ τ 3 0 1 ∧ (τ 3 0 0 = 2 → 0 ≤ τ 3 0 2 ∧ τ 3 0 2 ≤ 9)))
set_option maxRecDepth 20000 in
set_option maxHeartbeats 4000000 in
theorem ct_X10_both : pm_Ct yX10_both cX10_both 4 (some .int) 3 0 pre_X10_both po_X10_both := pm_sound (ini := false) (by decide +kernel) pk_X10_both (fun h => absurd h (by decide)) (by
  rintro as n s0 ⟨aa, ab, ac, rfl, rfl, R0, hpre⟩
  refine ⟨by decide, Nat.le_of_ble_eq_true rfl, fun G hG => ?_⟩
  have hG : pm_Rules (RX10, 3, 122, cX10_both, -1, (fun _ => 0), false, (some .int), po_X10_both [.inr (.inr (0, 0)), .inl aa, .inl ab, .inl ac] 122 s0) G := hG
  show G 0 [some (.inr (.inr (0, 0))), some (.inl aa), some (.inl ab), some (.inl ac)] [] 122 s0
  have B0 := pb_3_0 R0
  have B1 := pb_3_1 R0
  have B2 := pb_3_2 R0
  have B3 := pb_3_3 R0
  refine px_iload_n hG dX10_both_0 rfl ?_
  refine px_iconst hG dX10_both_1 ?_
  refine px_ic_lt hG dX10_both_2 (tgt := 10) (by decide) ⟨by omega, by omega⟩ ⟨by omega, by omega⟩ (fun c1 => ?_) (fun c1 => ?_)
  · refine px_iconst hG dX10_both_10 ?_
    exact px_iret (st := []) hG dX10_both_11 rfl rfl (fun aa_1 ab_1 ac_1 ee => by cases ee; exact ⟨_, rfl, R0, pm_Fr_rf, by omega⟩)
  · refine px_iload_n hG dX10_both_5 rfl ?_
    refine px_iconst hG dX10_both_6 ?_
    refine px_ic_le hG dX10_both_7 (tgt := 12) (by decide) ⟨by omega, by omega⟩ ⟨by omega, by omega⟩ (fun c2 => ?_) (fun c2 => ?_)
    · refine px_iload_n hG dX10_both_12 rfl ?_
      refine px_if_lt hG dX10_both_13 (tgt := 32) (by decide) ⟨by omega, by omega⟩ (fun c3 => ?_) (fun c3 => ?_)
      · refine px_iconst hG dX10_both_32 ?_
        exact px_iret (st := []) hG dX10_both_33 rfl rfl (fun aa_1 ab_1 ac_1 ee => by cases ee; exact ⟨_, rfl, R0, pm_Fr_rf, by omega⟩)
      · refine px_iload_n hG dX10_both_16 rfl ?_
        refine px_bipush hG dX10_both_17 (by decide) ?_
        refine px_ic_gt hG dX10_both_19 (tgt := 32) (by decide) ⟨by omega, by omega⟩ ⟨by omega, by omega⟩ (fun c4 => ?_) (fun c4 => ?_)
        · refine px_iconst hG dX10_both_32 ?_
          exact px_iret (st := []) hG dX10_both_33 rfl rfl (fun aa_1 ab_1 ac_1 ee => by cases ee; exact ⟨_, rfl, R0, pm_Fr_rf, by omega⟩)
        · refine px_iload_n hG dX10_both_22 rfl ?_
          refine px_if_lt hG dX10_both_23 (tgt := 32) (by decide) ⟨by omega, by omega⟩ (fun c5 => ?_) (fun c5 => ?_)
          · refine px_iconst hG dX10_both_32 ?_
            exact px_iret (st := []) hG dX10_both_33 rfl rfl (fun aa_1 ab_1 ac_1 ee => by cases ee; exact ⟨_, rfl, R0, pm_Fr_rf, by omega⟩)
          · refine px_iload_n hG dX10_both_26 rfl ?_
            refine px_bipush hG dX10_both_27 (by decide) ?_
            refine px_ic_le hG dX10_both_29 (tgt := 34) (by decide) ⟨by omega, by omega⟩ ⟨by omega, by omega⟩ (fun c6 => ?_) (fun c6 => ?_)
            · refine px_aload_n hG dX10_both_34 rfl ?_
              refine gr_0_6 hG dX10_both_35 fl_X10_59 R0 ?_
              refine px_iload_n hG dX10_both_38 rfl ?_
              refine px_aload_n hG dX10_both_39 rfl ?_
              refine gr_0_2 hG dX10_both_40 fl_X10_31 R0 ?_
              refine px_aload_n hG dX10_both_43 rfl ?_
              refine gr_0_5 hG dX10_both_44 fl_X10_52 R0 ?_
              refine jv3 hG dX10_both_47 ct_X3_fill lk_X10_287 ⟨rfl, rfl⟩ (by decide) ⟨Nat.le_of_ble_eq_true rfl, Nat.le_of_ble_eq_true rfl, Nat.le_of_ble_eq_true rfl⟩ (Nat.le_of_ble_eq_true rfl) ⟨aa, rfl, rfl, R0, by omega⟩ (fun r7 t9 pr7 => ?_)
              obtain ⟨rfl, Rt9, Ft9⟩ := pr7 _ rfl
              have Ff11 := pm_Fr_mono Ft9 (M := [(24, some 0), (25, none), (26, none), (28, none), (29, none), (30, none)]) rfl
              have jj12 := Ft9 3 0 0 rfl
              have jj13 := Ft9 3 0 1 rfl
              have jj14 := Ft9 3 0 2 rfl
              have jj15 := Ft9 3 0 3 rfl
              show G 50 [some (.inr (.inr (0, 0))), some (.inl aa), some (.inl ab), some (.inl ac)] [] 122 t9
              refine px_aload_n hG dX10_both_50 rfl ?_
              refine gr_0_6 hG dX10_both_51 fl_X10_59 Rt9 ?_
              refine px_iload_n hG dX10_both_54 rfl ?_
              refine px_iload_n hG dX10_both_55 rfl ?_
              refine px_iload_n hG dX10_both_56 rfl ?_
              refine jv3 hG dX10_both_57 ct_X3_rowsWith lk_X10_291 ⟨rfl, rfl⟩ (by decide) ⟨Nat.le_of_ble_eq_true rfl, Nat.le_of_ble_eq_true rfl, Nat.le_of_ble_eq_true rfl⟩ (Nat.le_of_ble_eq_true rfl) ⟨aa, ab, ac, rfl, rfl, Rt9, by omega⟩ (fun r16 t17 pr16 => ?_)
              obtain ⟨x18, rfl, rfl⟩ := pr16 _ _ _ rfl
              show G 60 [some (.inr (.inr (0, 0))), some (.inl aa), some (.inl ab), some (.inl ac)] [.inl x18] 122 t9
              have jj19 := Ff11 3 0 0 rfl
              have jj20 := Ff11 3 0 1 rfl
              have jj21 := Ff11 3 0 2 rfl
              have jj22 := Ff11 3 0 3 rfl
              exact px_iret (st := []) hG dX10_both_60 rfl rfl (fun aa_1 ab_1 ac_1 ee => by cases ee; exact ⟨_, rfl, Rt9, Ff11, by omega⟩)
            · refine px_iconst hG dX10_both_32 ?_
              exact px_iret (st := []) hG dX10_both_33 rfl rfl (fun aa_1 ab_1 ac_1 ee => by cases ee; exact ⟨_, rfl, R0, pm_Fr_rf, by omega⟩)
    · refine px_iconst hG dX10_both_10 ?_
      exact px_iret (st := []) hG dX10_both_11 rfl rfl (fun aa_1 ab_1 ac_1 ee => by cases ee; exact ⟨_, rfl, R0, pm_Fr_rf, by omega⟩))
def pre_X10_spread (as : List pm_V) (n : Nat) (σ : pm_H) : Prop := ∃ aa ab ac : Int, as = [.inr (.inr (0, 0)), .inl aa, .inl ab, .inl ac] ∧ n = 122 ∧ pm_Rng σ ∧ (pm_in aa ∧ pm_in ab ∧ pm_in ac ∧ (σ 3 0 3 ≤ σ 3 0 1 ∧ (σ 3 0 0 = 2 → 0 ≤ σ 3 0 2 ∧ σ 3 0 2 ≤ 9)))
def po_X10_spread (as : List pm_V) (_ : Nat) (σ : pm_H) (r : Option pm_V) (τ : pm_H) : Prop := ∀ aa ab ac : Int, as = [.inr (.inr (0, 0)), .inl aa, .inl ab, .inl ac] → ∃ v : Int, r = some (.inr (.inl v)) ∧ pm_Rng τ ∧ pm_Fr [(31, some 1), (32, none), (33, none), (34, none)] σ τ ∧ ((τ 3 0 3 ≤ τ 3 0 1 ∧ (τ 3 0 0 = 2 → 0 ≤ τ 3 0 2 ∧ τ 3 0 2 ≤ 9)))
set_option maxRecDepth 20000 in
set_option maxHeartbeats 4000000 in
theorem ct_X10_spread : pm_Ct yX10_spread cX10_spread 4 (some .long) 4 0 pre_X10_spread po_X10_spread := pm_sound (ini := false) (by decide +kernel) pk_X10_spread (fun h => absurd h (by decide)) (by
  rintro as n s0 ⟨aa, ab, ac, rfl, rfl, R0, hpre⟩
  refine ⟨by decide, Nat.le_of_ble_eq_true rfl, fun G hG => ?_⟩
  have hG : pm_Rules (RX10, 4, 122, cX10_spread, -1, (fun _ => 0), false, (some .long), po_X10_spread [.inr (.inr (0, 0)), .inl aa, .inl ab, .inl ac] 122 s0) G := hG
  show G 0 [some (.inr (.inr (0, 0))), some (.inl aa), some (.inl ab), some (.inl ac)] [] 122 s0
  have B0 := pb_3_0 R0
  have B1 := pb_3_1 R0
  have B2 := pb_3_2 R0
  have B3 := pb_3_3 R0
  refine px_iload_n hG dX10_spread_0 rfl ?_
  refine px_iconst hG dX10_spread_1 ?_
  refine px_ic_lt hG dX10_spread_2 (tgt := 11) (by decide) ⟨by omega, by omega⟩ ⟨by omega, by omega⟩ (fun c1 => ?_) (fun c1 => ?_)
  · refine px_ldc2 hG dX10_spread_11 cn_X10_170 ?_
    show G 14 [some (.inr (.inr (0, 0))), some (.inl aa), some (.inl ab), some (.inl ac)] [.inr (.inl (-1))] 122 s0
    exact px_lret (st := []) hG dX10_spread_14 rfl rfl (fun aa_1 ab_1 ac_1 ee => by cases ee; exact ⟨_, rfl, R0, pm_Fr_rf, by omega⟩)
  · refine px_iload_n hG dX10_spread_5 rfl ?_
    refine px_bipush hG dX10_spread_6 (by decide) ?_
    refine px_ic_le hG dX10_spread_8 (tgt := 15) (by decide) ⟨by omega, by omega⟩ ⟨by omega, by omega⟩ (fun c2 => ?_) (fun c2 => ?_)
    · refine px_iload_n hG dX10_spread_15 rfl ?_
      refine px_tsw hG dX10_spread_16 ⟨by omega, by omega⟩ (by decide) (And.intro (by decide) (And.intro (fun c16_0 => ?_) (And.intro (by decide) (And.intro (fun c16_1 => ?_) (And.intro (by decide) (And.intro (fun c16_2 => ?_) (And.intro (by decide) (And.intro (fun c16_3 => ?_) (And.intro (by decide) (And.intro (fun c16_4 => ?_) (And.intro (by decide) (And.intro (fun c16_5 => ?_) (trivial))))))))))))) (fun c16_d => ?_) (by decide)
      · show G 56 [some (.inr (.inr (0, 0))), some (.inl aa), some (.inl ab), some (.inl ac)] [] 122 s0
        refine px_aload_n hG dX10_spread_56 rfl ?_
        refine gr_0_7 hG dX10_spread_57 fl_X10_66 R0 ?_
        refine px_iload_n hG dX10_spread_60 rfl ?_
        refine px_iload_n hG dX10_spread_61 rfl ?_
        refine jv2 hG dX10_spread_62 ct_X7_withGoes lk_X10_295 ⟨rfl, rfl⟩ (by decide) ⟨Nat.le_of_ble_eq_true rfl, Nat.le_of_ble_eq_true rfl, Nat.le_of_ble_eq_true rfl⟩ (Nat.le_of_ble_eq_true rfl) ⟨ab, ac, rfl, rfl, R0, by omega⟩ (fun r3 t5 pr3 => ?_)
        obtain ⟨z6, rfl, Rt5, Ft5⟩ := pr3 _ _ rfl
        have Ff7 := pm_Fr_mono Ft5 (M := [(31, some 1), (32, none), (33, none), (34, none)]) rfl
        have jj8 := Ft5 3 0 0 rfl
        have jj9 := Ft5 3 0 1 rfl
        have jj10 := Ft5 3 0 2 rfl
        have jj11 := Ft5 3 0 3 rfl
        show G 65 [some (.inr (.inr (0, 0))), some (.inl aa), some (.inl ab), some (.inl ac)] [.inr (.inl z6)] 122 t5
        have jj12 := Ff7 3 0 0 rfl
        have jj13 := Ff7 3 0 1 rfl
        have jj14 := Ff7 3 0 2 rfl
        have jj15 := Ff7 3 0 3 rfl
        exact px_lret (st := []) hG dX10_spread_65 rfl rfl (fun aa_1 ab_1 ac_1 ee => by cases ee; exact ⟨_, rfl, Rt5, Ff7, by omega⟩)
      · show G 66 [some (.inr (.inr (0, 0))), some (.inl aa), some (.inl ab), some (.inl ac)] [] 122 s0
        refine px_aload_n hG dX10_spread_66 rfl ?_
        refine gr_0_7 hG dX10_spread_67 fl_X10_66 R0 ?_
        refine px_iload_n hG dX10_spread_70 rfl ?_
        refine px_iload_n hG dX10_spread_71 rfl ?_
        refine jv2 hG dX10_spread_72 ct_X7_withLucky lk_X10_298 ⟨rfl, rfl⟩ (by decide) ⟨Nat.le_of_ble_eq_true rfl, Nat.le_of_ble_eq_true rfl, Nat.le_of_ble_eq_true rfl⟩ (Nat.le_of_ble_eq_true rfl) ⟨ab, ac, rfl, rfl, R0, by omega⟩ (fun r16 t18 pr16 => ?_)
        obtain ⟨z19, rfl, Rt18, Ft18⟩ := pr16 _ _ rfl
        have Ff20 := pm_Fr_mono Ft18 (M := [(31, some 1), (32, none), (33, none), (34, none)]) rfl
        have jj21 := Ft18 3 0 0 rfl
        have jj22 := Ft18 3 0 1 rfl
        have jj23 := Ft18 3 0 2 rfl
        have jj24 := Ft18 3 0 3 rfl
        show G 75 [some (.inr (.inr (0, 0))), some (.inl aa), some (.inl ab), some (.inl ac)] [.inr (.inl z19)] 122 t18
        have jj25 := Ff20 3 0 0 rfl
        have jj26 := Ff20 3 0 1 rfl
        have jj27 := Ff20 3 0 2 rfl
        have jj28 := Ff20 3 0 3 rfl
        exact px_lret (st := []) hG dX10_spread_75 rfl rfl (fun aa_1 ab_1 ac_1 ee => by cases ee; exact ⟨_, rfl, Rt18, Ff20, by omega⟩)
      · show G 76 [some (.inr (.inr (0, 0))), some (.inl aa), some (.inl ab), some (.inl ac)] [] 122 s0
        refine px_aload_n hG dX10_spread_76 rfl ?_
        refine gr_0_7 hG dX10_spread_77 fl_X10_66 R0 ?_
        refine px_iload_n hG dX10_spread_80 rfl ?_
        refine px_iload_n hG dX10_spread_81 rfl ?_
        refine jv2 hG dX10_spread_82 ct_X7_withLastAt lk_X10_301 ⟨rfl, rfl⟩ (by decide) ⟨Nat.le_of_ble_eq_true rfl, Nat.le_of_ble_eq_true rfl, Nat.le_of_ble_eq_true rfl⟩ (Nat.le_of_ble_eq_true rfl) ⟨ab, ac, rfl, rfl, R0, by omega⟩ (fun r29 t30 pr29 => ?_)
        obtain ⟨z31, rfl, rfl⟩ := pr29 _ _ rfl
        show G 85 [some (.inr (.inr (0, 0))), some (.inl aa), some (.inl ab), some (.inl ac)] [.inr (.inl z31)] 122 s0
        exact px_lret (st := []) hG dX10_spread_85 rfl rfl (fun aa_1 ab_1 ac_1 ee => by cases ee; exact ⟨_, rfl, R0, pm_Fr_rf, by omega⟩)
      · show G 86 [some (.inr (.inr (0, 0))), some (.inl aa), some (.inl ab), some (.inl ac)] [] 122 s0
        refine px_aload_n hG dX10_spread_86 rfl ?_
        refine gr_0_7 hG dX10_spread_87 fl_X10_66 R0 ?_
        refine px_iload_n hG dX10_spread_90 rfl ?_
        refine px_iload_n hG dX10_spread_91 rfl ?_
        refine jv2 hG dX10_spread_92 ct_X7_withFirstWish lk_X10_304 ⟨rfl, rfl⟩ (by decide) ⟨Nat.le_of_ble_eq_true rfl, Nat.le_of_ble_eq_true rfl, Nat.le_of_ble_eq_true rfl⟩ (Nat.le_of_ble_eq_true rfl) ⟨ab, ac, rfl, rfl, R0, by omega⟩ (fun r32 t33 pr32 => ?_)
        obtain ⟨z34, rfl, rfl⟩ := pr32 _ _ rfl
        show G 95 [some (.inr (.inr (0, 0))), some (.inl aa), some (.inl ab), some (.inl ac)] [.inr (.inl z34)] 122 s0
        exact px_lret (st := []) hG dX10_spread_95 rfl rfl (fun aa_1 ab_1 ac_1 ee => by cases ee; exact ⟨_, rfl, R0, pm_Fr_rf, by omega⟩)
      · show G 96 [some (.inr (.inr (0, 0))), some (.inl aa), some (.inl ab), some (.inl ac)] [] 122 s0
        refine px_aload_n hG dX10_spread_96 rfl ?_
        refine gr_0_7 hG dX10_spread_97 fl_X10_66 R0 ?_
        refine px_iload_n hG dX10_spread_100 rfl ?_
        refine px_iload_n hG dX10_spread_101 rfl ?_
        refine jv2 hG dX10_spread_102 ct_X7_withOnes lk_X10_307 ⟨rfl, rfl⟩ (by decide) ⟨Nat.le_of_ble_eq_true rfl, Nat.le_of_ble_eq_true rfl, Nat.le_of_ble_eq_true rfl⟩ (Nat.le_of_ble_eq_true rfl) ⟨ab, ac, rfl, rfl, R0, by omega⟩ (fun r35 t36 pr35 => ?_)
        obtain ⟨z37, rfl, rfl⟩ := pr35 _ _ rfl
        show G 105 [some (.inr (.inr (0, 0))), some (.inl aa), some (.inl ab), some (.inl ac)] [.inr (.inl z37)] 122 s0
        exact px_lret (st := []) hG dX10_spread_105 rfl rfl (fun aa_1 ab_1 ac_1 ee => by cases ee; exact ⟨_, rfl, R0, pm_Fr_rf, by omega⟩)
      · show G 106 [some (.inr (.inr (0, 0))), some (.inl aa), some (.inl ab), some (.inl ac)] [] 122 s0
        refine px_aload_n hG dX10_spread_106 rfl ?_
        refine gr_0_7 hG dX10_spread_107 fl_X10_66 R0 ?_
        refine px_iload_n hG dX10_spread_110 rfl ?_
        refine px_iload_n hG dX10_spread_111 rfl ?_
        refine jv2 hG dX10_spread_112 ct_X7_withCuts lk_X10_310 ⟨rfl, rfl⟩ (by decide) ⟨Nat.le_of_ble_eq_true rfl, Nat.le_of_ble_eq_true rfl, Nat.le_of_ble_eq_true rfl⟩ (Nat.le_of_ble_eq_true rfl) ⟨ab, ac, rfl, rfl, R0, by omega⟩ (fun r38 t40 pr38 => ?_)
        obtain ⟨z41, rfl, Rt40, Ft40⟩ := pr38 _ _ rfl
        have Ff42 := pm_Fr_mono Ft40 (M := [(31, some 1), (32, none), (33, none), (34, none)]) rfl
        have jj43 := Ft40 3 0 0 rfl
        have jj44 := Ft40 3 0 1 rfl
        have jj45 := Ft40 3 0 2 rfl
        have jj46 := Ft40 3 0 3 rfl
        show G 115 [some (.inr (.inr (0, 0))), some (.inl aa), some (.inl ab), some (.inl ac)] [.inr (.inl z41)] 122 t40
        have jj47 := Ff42 3 0 0 rfl
        have jj48 := Ff42 3 0 1 rfl
        have jj49 := Ff42 3 0 2 rfl
        have jj50 := Ff42 3 0 3 rfl
        exact px_lret (st := []) hG dX10_spread_115 rfl rfl (fun aa_1 ab_1 ac_1 ee => by cases ee; exact ⟨_, rfl, Rt40, Ff42, by omega⟩)
      · show G 116 [some (.inr (.inr (0, 0))), some (.inl aa), some (.inl ab), some (.inl ac)] [] 122 s0
        refine px_ldc2 hG dX10_spread_116 cn_X10_170 ?_
        show G 119 [some (.inr (.inr (0, 0))), some (.inl aa), some (.inl ab), some (.inl ac)] [.inr (.inl (-1))] 122 s0
        exact px_lret (st := []) hG dX10_spread_119 rfl rfl (fun aa_1 ab_1 ac_1 ee => by cases ee; exact ⟨_, rfl, R0, pm_Fr_rf, by omega⟩)
    · refine px_ldc2 hG dX10_spread_11 cn_X10_170 ?_
      show G 14 [some (.inr (.inr (0, 0))), some (.inl aa), some (.inl ab), some (.inl ac)] [.inr (.inl (-1))] 122 s0
      exact px_lret (st := []) hG dX10_spread_14 rfl rfl (fun aa_1 ab_1 ac_1 ee => by cases ee; exact ⟨_, rfl, R0, pm_Fr_rf, by omega⟩))
def pre_X10_sheet (as : List pm_V) (n : Nat) (σ : pm_H) : Prop := ∃ aa ab ac : Int, as = [.inr (.inr (0, 0)), .inl aa, .inl ab, .inl ac] ∧ n = 122 ∧ pm_Rng σ ∧ (pm_in aa ∧ pm_in ab ∧ pm_in ac ∧ (σ 3 0 3 ≤ σ 3 0 1 ∧ (σ 3 0 0 = 2 → 0 ≤ σ 3 0 2 ∧ σ 3 0 2 ≤ 9)))
def po_X10_sheet (as : List pm_V) (_ : Nat) (σ : pm_H) (r : Option pm_V) (τ : pm_H) : Prop := ∀ aa ab ac : Int, as = [.inr (.inr (0, 0)), .inl aa, .inl ab, .inl ac] → ∃ v : Int, r = some (.inl v) ∧ pm_Rng τ ∧ pm_Fr [(36, none), (37, none), (38, none)] σ τ ∧ ((τ 3 0 3 ≤ τ 3 0 1 ∧ (τ 3 0 0 = 2 → 0 ≤ τ 3 0 2 ∧ τ 3 0 2 ≤ 9)))
set_option maxRecDepth 20000 in
set_option maxHeartbeats 4000000 in
theorem ct_X10_sheet : pm_Ct yX10_sheet cX10_sheet 4 (some .int) 1 0 pre_X10_sheet po_X10_sheet := pm_sound (ini := false) (by decide +kernel) pk_X10_sheet (fun h => absurd h (by decide)) (by
  rintro as n s0 ⟨aa, ab, ac, rfl, rfl, R0, hpre⟩
  refine ⟨by decide, Nat.le_of_ble_eq_true rfl, fun G hG => ?_⟩
  have hG : pm_Rules (RX10, 1, 122, cX10_sheet, -1, (fun _ => 0), false, (some .int), po_X10_sheet [.inr (.inr (0, 0)), .inl aa, .inl ab, .inl ac] 122 s0) G := hG
  show G 0 [some (.inr (.inr (0, 0))), some (.inl aa), some (.inl ab), some (.inl ac)] [] 122 s0
  have B0 := pb_3_0 R0
  have B1 := pb_3_1 R0
  have B2 := pb_3_2 R0
  have B3 := pb_3_3 R0
  refine px_aload_n hG dX10_sheet_0 rfl ?_
  refine gr_0_8 hG dX10_sheet_1 fl_X10_73 R0 ?_
  refine px_iload_n hG dX10_sheet_4 rfl ?_
  refine jv1 hG dX10_sheet_5 ct_X6_hasSheet lk_X10_313 ⟨rfl, rfl⟩ (by decide) ⟨Nat.le_of_ble_eq_true rfl, Nat.le_of_ble_eq_true rfl, Nat.le_of_ble_eq_true rfl⟩ (Nat.le_of_ble_eq_true rfl) ⟨aa, rfl, rfl, R0, by omega⟩ (fun r1 t2 pr1 => ?_)
  obtain ⟨x3, rfl, rfl, br1⟩ := pr1 _ rfl
  show G 8 [some (.inr (.inr (0, 0))), some (.inl aa), some (.inl ab), some (.inl ac)] [.inl x3] 122 s0
  refine px_if_eq hG dX10_sheet_8 (tgt := 28) (by decide) ⟨by omega, by omega⟩ (fun c4 => ?_) (fun c4 => ?_)
  · refine px_iconst hG dX10_sheet_28 ?_
    exact px_iret (st := []) hG dX10_sheet_29 rfl rfl (fun aa_1 ab_1 ac_1 ee => by cases ee; exact ⟨_, rfl, R0, pm_Fr_rf, by omega⟩)
  · refine px_aload_n hG dX10_sheet_11 rfl ?_
    refine gr_0_8 hG dX10_sheet_12 fl_X10_73 R0 ?_
    refine px_iload_n hG dX10_sheet_15 rfl ?_
    refine jv1 hG dX10_sheet_16 ct_X6_hasLane lk_X10_316 ⟨rfl, rfl⟩ (by decide) ⟨Nat.le_of_ble_eq_true rfl, Nat.le_of_ble_eq_true rfl, Nat.le_of_ble_eq_true rfl⟩ (Nat.le_of_ble_eq_true rfl) ⟨ab, rfl, rfl, R0, by omega⟩ (fun r5 t6 pr5 => ?_)
    obtain ⟨x7, rfl, rfl, br5⟩ := pr5 _ rfl
    show G 19 [some (.inr (.inr (0, 0))), some (.inl aa), some (.inl ab), some (.inl ac)] [.inl x7] 122 s0
    refine px_if_eq hG dX10_sheet_19 (tgt := 28) (by decide) ⟨by omega, by omega⟩ (fun c8 => ?_) (fun c8 => ?_)
    · refine px_iconst hG dX10_sheet_28 ?_
      exact px_iret (st := []) hG dX10_sheet_29 rfl rfl (fun aa_1 ab_1 ac_1 ee => by cases ee; exact ⟨_, rfl, R0, pm_Fr_rf, by omega⟩)
    · refine px_iload_n hG dX10_sheet_22 rfl ?_
      refine px_bipush hG dX10_sheet_23 (by decide) ?_
      refine px_ic_le hG dX10_sheet_25 (tgt := 30) (by decide) ⟨by omega, by omega⟩ ⟨by omega, by omega⟩ (fun c9 => ?_) (fun c9 => ?_)
      · refine px_iload_n hG dX10_sheet_30 rfl ?_
        refine px_if_ge hG dX10_sheet_31 (tgt := 37) (by decide) ⟨by omega, by omega⟩ (fun c10 => ?_) (fun c10 => ?_)
        · refine px_aload_n hG dX10_sheet_37 rfl ?_
          refine gr_0_8 hG dX10_sheet_38 fl_X10_73 R0 ?_
          refine px_iload_n hG dX10_sheet_41 rfl ?_
          refine px_iload_n hG dX10_sheet_42 rfl ?_
          refine px_iload_n hG dX10_sheet_43 rfl ?_
          refine jv3 hG dX10_sheet_44 ct_X6_renew lk_X10_319 ⟨rfl, rfl⟩ (by decide) ⟨Nat.le_of_ble_eq_true rfl, Nat.le_of_ble_eq_true rfl, Nat.le_of_ble_eq_true rfl⟩ (Nat.le_of_ble_eq_true rfl) ⟨aa, ab, ac, rfl, rfl, R0, by omega⟩ (fun r11 t13 pr11 => ?_)
          obtain ⟨rfl, Rt13, Ft13, br11⟩ := pr11 _ _ _ rfl
          have Ff15 := pm_Fr_mono Ft13 (M := [(36, none), (37, none), (38, none)]) rfl
          have jj16 := Ft13 3 0 0 rfl
          have jj17 := Ft13 3 0 1 rfl
          have jj18 := Ft13 3 0 2 rfl
          have jj19 := Ft13 3 0 3 rfl
          show G 47 [some (.inr (.inr (0, 0))), some (.inl aa), some (.inl ab), some (.inl ac)] [] 122 t13
          refine px_iload_n hG dX10_sheet_47 rfl ?_
          have jj20 := Ff15 3 0 0 rfl
          have jj21 := Ff15 3 0 1 rfl
          have jj22 := Ff15 3 0 2 rfl
          have jj23 := Ff15 3 0 3 rfl
          exact px_iret (st := []) hG dX10_sheet_48 rfl rfl (fun aa_1 ab_1 ac_1 ee => by cases ee; exact ⟨_, rfl, Rt13, Ff15, by omega⟩)
        · refine px_bipush hG dX10_sheet_34 (by decide) ?_
          exact px_iret (st := []) hG dX10_sheet_36 rfl rfl (fun aa_1 ab_1 ac_1 ee => by cases ee; exact ⟨_, rfl, R0, pm_Fr_rf, by omega⟩)
      · refine px_iconst hG dX10_sheet_28 ?_
        exact px_iret (st := []) hG dX10_sheet_29 rfl rfl (fun aa_1 ab_1 ac_1 ee => by cases ee; exact ⟨_, rfl, R0, pm_Fr_rf, by omega⟩))
def pre_X10_drop (as : List pm_V) (n : Nat) (σ : pm_H) : Prop := ∃ aa : Int, as = [.inr (.inr (0, 0)), .inl aa] ∧ n = 122 ∧ pm_Rng σ ∧ (pm_in aa ∧ (σ 3 0 3 ≤ σ 3 0 1 ∧ (σ 3 0 0 = 2 → 0 ≤ σ 3 0 2 ∧ σ 3 0 2 ≤ 9)))
def po_X10_drop (as : List pm_V) (_ : Nat) (σ : pm_H) (r : Option pm_V) (τ : pm_H) : Prop := ∀ aa : Int, as = [.inr (.inr (0, 0)), .inl aa] → ∃ v : Int, r = some (.inl v) ∧ pm_Rng τ ∧ pm_Fr [(36, none)] σ τ ∧ ((τ 3 0 3 ≤ τ 3 0 1 ∧ (τ 3 0 0 = 2 → 0 ≤ τ 3 0 2 ∧ τ 3 0 2 ≤ 9)))
set_option maxRecDepth 20000 in
set_option maxHeartbeats 4000000 in
theorem ct_X10_drop : pm_Ct yX10_drop cX10_drop 2 (some .int) 1 0 pre_X10_drop po_X10_drop := pm_sound (ini := false) (by decide +kernel) pk_X10_drop (fun h => absurd h (by decide)) (by
  rintro as n s0 ⟨aa, rfl, rfl, R0, hpre⟩
  refine ⟨by decide, Nat.le_of_ble_eq_true rfl, fun G hG => ?_⟩
  have hG : pm_Rules (RX10, 1, 122, cX10_drop, -1, (fun _ => 0), false, (some .int), po_X10_drop [.inr (.inr (0, 0)), .inl aa] 122 s0) G := hG
  show G 0 [some (.inr (.inr (0, 0))), some (.inl aa)] [] 122 s0
  have B0 := pb_3_0 R0
  have B1 := pb_3_1 R0
  have B2 := pb_3_2 R0
  have B3 := pb_3_3 R0
  refine px_aload_n hG dX10_drop_0 rfl ?_
  refine gr_0_8 hG dX10_drop_1 fl_X10_73 R0 ?_
  refine px_iload_n hG dX10_drop_4 rfl ?_
  refine jv1 hG dX10_drop_5 ct_X6_hasSheet lk_X10_313 ⟨rfl, rfl⟩ (by decide) ⟨Nat.le_of_ble_eq_true rfl, Nat.le_of_ble_eq_true rfl, Nat.le_of_ble_eq_true rfl⟩ (Nat.le_of_ble_eq_true rfl) ⟨aa, rfl, rfl, R0, by omega⟩ (fun r1 t2 pr1 => ?_)
  obtain ⟨x3, rfl, rfl, br1⟩ := pr1 _ rfl
  show G 8 [some (.inr (.inr (0, 0))), some (.inl aa)] [.inl x3] 122 s0
  refine px_if_ne hG dX10_drop_8 (tgt := 13) (by decide) ⟨by omega, by omega⟩ (fun c4 => ?_) (fun c4 => ?_)
  · refine px_aload_n hG dX10_drop_13 rfl ?_
    refine gr_0_8 hG dX10_drop_14 fl_X10_73 R0 ?_
    refine px_iload_n hG dX10_drop_17 rfl ?_
    refine jv1 hG dX10_drop_18 ct_X6_holdsNothing lk_X10_322 ⟨rfl, rfl⟩ (by decide) ⟨Nat.le_of_ble_eq_true rfl, Nat.le_of_ble_eq_true rfl, Nat.le_of_ble_eq_true rfl⟩ (Nat.le_of_ble_eq_true rfl) ⟨aa, rfl, rfl, R0, by omega⟩ (fun r5 t6 pr5 => ?_)
    obtain ⟨x7, rfl, rfl, br5⟩ := pr5 _ rfl
    show G 21 [some (.inr (.inr (0, 0))), some (.inl aa)] [.inl x7] 122 s0
    refine px_if_eq hG dX10_drop_21 (tgt := 29) (by decide) ⟨by omega, by omega⟩ (fun c8 => ?_) (fun c8 => ?_)
    · refine px_aload_n hG dX10_drop_29 rfl ?_
      refine gr_0_8 hG dX10_drop_30 fl_X10_73 R0 ?_
      refine px_iload_n hG dX10_drop_33 rfl ?_
      refine jv1 hG dX10_drop_34 ct_X6_remove lk_X10_325 ⟨rfl, rfl⟩ (by decide) ⟨Nat.le_of_ble_eq_true rfl, Nat.le_of_ble_eq_true rfl, Nat.le_of_ble_eq_true rfl⟩ (Nat.le_of_ble_eq_true rfl) ⟨aa, rfl, rfl, R0, by omega⟩ (fun r9 t11 pr9 => ?_)
      obtain ⟨x12, rfl, Rt11, Ft11, br9⟩ := pr9 _ rfl
      have Ff13 := pm_Fr_mono Ft11 (M := [(36, none)]) rfl
      have jj14 := Ft11 3 0 0 rfl
      have jj15 := Ft11 3 0 1 rfl
      have jj16 := Ft11 3 0 2 rfl
      have jj17 := Ft11 3 0 3 rfl
      show G 37 [some (.inr (.inr (0, 0))), some (.inl aa)] [.inl x12] 122 t11
      have jj18 := Ff13 3 0 0 rfl
      have jj19 := Ff13 3 0 1 rfl
      have jj20 := Ff13 3 0 2 rfl
      have jj21 := Ff13 3 0 3 rfl
      exact px_iret (st := []) hG dX10_drop_37 rfl rfl (fun aa_1 ee => by cases ee; exact ⟨_, rfl, Rt11, Ff13, by omega⟩)
    · refine px_bipush hG dX10_drop_24 (by decide) ?_
      refine px_goto hG dX10_drop_26 (tgt := 37) (by decide) ?_
      exact px_iret (st := []) hG dX10_drop_37 rfl rfl (fun aa_1 ee => by cases ee; exact ⟨_, rfl, R0, pm_Fr_rf, by omega⟩)
  · refine px_iconst hG dX10_drop_11 ?_
    exact px_iret (st := []) hG dX10_drop_12 rfl rfl (fun aa_1 ee => by cases ee; exact ⟨_, rfl, R0, pm_Fr_rf, by omega⟩))
def pre_X10_item (as : List pm_V) (n : Nat) (σ : pm_H) : Prop := ∃ aa ab ac ad : Int, as = [.inr (.inr (0, 0)), .inl aa, .inl ab, .inl ac, .inl ad] ∧ n = 122 ∧ pm_Rng σ ∧ (pm_in aa ∧ pm_in ab ∧ pm_in ac ∧ pm_in ad ∧ (σ 3 0 3 ≤ σ 3 0 1 ∧ (σ 3 0 0 = 2 → 0 ≤ σ 3 0 2 ∧ σ 3 0 2 ≤ 9)))
def po_X10_item (as : List pm_V) (_ : Nat) (σ : pm_H) (r : Option pm_V) (τ : pm_H) : Prop := ∀ aa ab ac ad : Int, as = [.inr (.inr (0, 0)), .inl aa, .inl ab, .inl ac, .inl ad] → ∃ v : Int, r = some (.inl v) ∧ pm_Rng τ ∧ pm_Fr [(38, none)] σ τ ∧ ((τ 3 0 3 ≤ τ 3 0 1 ∧ (τ 3 0 0 = 2 → 0 ≤ τ 3 0 2 ∧ τ 3 0 2 ≤ 9)))
set_option maxRecDepth 20000 in
set_option maxHeartbeats 4000000 in
theorem ct_X10_item : pm_Ct yX10_item cX10_item 6 (some .int) 2 0 pre_X10_item po_X10_item := pm_sound (ini := false) (by decide +kernel) pk_X10_item (fun h => absurd h (by decide)) (by
  rintro as n s0 ⟨aa, ab, ac, ad, rfl, rfl, R0, hpre⟩
  refine ⟨by decide, Nat.le_of_ble_eq_true rfl, fun G hG => ?_⟩
  have hG : pm_Rules (RX10, 2, 122, cX10_item, -1, (fun _ => 0), false, (some .int), po_X10_item [.inr (.inr (0, 0)), .inl aa, .inl ab, .inl ac, .inl ad] 122 s0) G := hG
  show G 0 [some (.inr (.inr (0, 0))), some (.inl aa), some (.inl ab), some (.inl ac), some (.inl ad), none] [] 122 s0
  have B0 := pb_3_0 R0
  have B1 := pb_3_1 R0
  have B2 := pb_3_2 R0
  have B3 := pb_3_3 R0
  refine px_aload_n hG dX10_item_0 rfl ?_
  refine gr_0_8 hG dX10_item_1 fl_X10_73 R0 ?_
  refine px_iload_n hG dX10_item_4 rfl ?_
  refine px_iload_n hG dX10_item_5 rfl ?_
  refine px_iload_n hG dX10_item_6 rfl ?_
  refine px_iconst hG dX10_item_7 ?_
  refine jv4 hG dX10_item_8 ct_X6_refusal lk_X10_252 ⟨rfl, rfl⟩ (by decide) ⟨Nat.le_of_ble_eq_true rfl, Nat.le_of_ble_eq_true rfl, Nat.le_of_ble_eq_true rfl⟩ (Nat.le_of_ble_eq_true rfl) ⟨aa, ab, ac, 1, rfl, rfl, R0, by omega⟩ (fun r1 t2 pr1 => ?_)
  obtain ⟨x3, rfl, rfl, br1⟩ := pr1 _ _ _ _ rfl
  show G 11 [some (.inr (.inr (0, 0))), some (.inl aa), some (.inl ab), some (.inl ac), some (.inl ad), none] [.inl x3] 122 s0
  refine px_istore hG dX10_item_11 (Nat.le_of_ble_eq_true rfl) (L2 := [some (.inr (.inr (0, 0))), some (.inl aa), some (.inl ab), some (.inl ac), some (.inl ad), some (.inl x3)]) rfl ?_
  refine px_iload hG dX10_item_13 rfl ?_
  refine px_if_eq hG dX10_item_15 (tgt := 21) (by decide) ⟨by omega, by omega⟩ (fun c4 => ?_) (fun c4 => ?_)
  · refine px_aload_n hG dX10_item_21 rfl ?_
    refine gr_0_8 hG dX10_item_22 fl_X10_73 R0 ?_
    refine px_iload_n hG dX10_item_25 rfl ?_
    refine px_iload_n hG dX10_item_26 rfl ?_
    refine px_iload hG dX10_item_27 rfl ?_
    refine jv3 hG dX10_item_29 ct_X6_put lk_X10_328 ⟨rfl, rfl⟩ (by decide) ⟨Nat.le_of_ble_eq_true rfl, Nat.le_of_ble_eq_true rfl, Nat.le_of_ble_eq_true rfl⟩ (Nat.le_of_ble_eq_true rfl) ⟨aa, ac, ad, rfl, rfl, R0, by omega⟩ (fun r5 t7 pr5 => ?_)
    obtain ⟨rfl, Rt7, Ft7⟩ := pr5 _ _ _ rfl
    have Ff9 := pm_Fr_mono Ft7 (M := [(38, none)]) rfl
    have jj10 := Ft7 3 0 0 rfl
    have jj11 := Ft7 3 0 1 rfl
    have jj12 := Ft7 3 0 2 rfl
    have jj13 := Ft7 3 0 3 rfl
    show G 32 [some (.inr (.inr (0, 0))), some (.inl aa), some (.inl ab), some (.inl ac), some (.inl ad), some (.inl x3)] [] 122 t7
    refine px_iconst hG dX10_item_32 ?_
    have jj14 := Ff9 3 0 0 rfl
    have jj15 := Ff9 3 0 1 rfl
    have jj16 := Ff9 3 0 2 rfl
    have jj17 := Ff9 3 0 3 rfl
    exact px_iret (st := []) hG dX10_item_33 rfl rfl (fun aa_1 ab_1 ac_1 ad_1 ee => by cases ee; exact ⟨_, rfl, Rt7, Ff9, by omega⟩)
  · refine px_iload hG dX10_item_18 rfl ?_
    exact px_iret (st := []) hG dX10_item_20 rfl rfl (fun aa_1 ab_1 ac_1 ad_1 ee => by cases ee; exact ⟨_, rfl, R0, pm_Fr_rf, by omega⟩))
def pre_X10_keep (as : List pm_V) (n : Nat) (σ : pm_H) : Prop := ∃ aa ab ac : Int, as = [.inr (.inr (0, 0)), .inl aa, .inl ab, .inl ac] ∧ n = 122 ∧ pm_Rng σ ∧ (pm_in aa ∧ pm_in ab ∧ pm_in ac ∧ (σ 3 0 3 ≤ σ 3 0 1 ∧ (σ 3 0 0 = 2 → 0 ≤ σ 3 0 2 ∧ σ 3 0 2 ≤ 9)))
def po_X10_keep (as : List pm_V) (_ : Nat) (σ : pm_H) (r : Option pm_V) (τ : pm_H) : Prop := ∀ aa ab ac : Int, as = [.inr (.inr (0, 0)), .inl aa, .inl ab, .inl ac] → ∃ v : Int, r = some (.inl v) ∧ pm_Rng τ ∧ pm_Fr [(38, none)] σ τ ∧ ((τ 3 0 3 ≤ τ 3 0 1 ∧ (τ 3 0 0 = 2 → 0 ≤ τ 3 0 2 ∧ τ 3 0 2 ≤ 9)))
set_option maxRecDepth 20000 in
set_option maxHeartbeats 4000000 in
theorem ct_X10_keep : pm_Ct yX10_keep cX10_keep 6 (some .int) 2 0 pre_X10_keep po_X10_keep := pm_sound (ini := false) (by decide +kernel) pk_X10_keep (fun h => absurd h (by decide)) (by
  rintro as n s0 ⟨aa, ab, ac, rfl, rfl, R0, hpre⟩
  refine ⟨by decide, Nat.le_of_ble_eq_true rfl, fun G hG => ?_⟩
  have hG : pm_Rules (RX10, 2, 122, cX10_keep, -1, (fun _ => 0), false, (some .int), po_X10_keep [.inr (.inr (0, 0)), .inl aa, .inl ab, .inl ac] 122 s0) G := hG
  show G 0 [some (.inr (.inr (0, 0))), some (.inl aa), some (.inl ab), some (.inl ac), none, none] [] 122 s0
  have B0 := pb_3_0 R0
  have B1 := pb_3_1 R0
  have B2 := pb_3_2 R0
  have B3 := pb_3_3 R0
  refine px_aload_n hG dX10_keep_0 rfl ?_
  refine gr_0_8 hG dX10_keep_1 fl_X10_73 R0 ?_
  refine px_iload_n hG dX10_keep_4 rfl ?_
  refine px_iload_n hG dX10_keep_5 rfl ?_
  refine px_iload_n hG dX10_keep_6 rfl ?_
  refine px_aload_n hG dX10_keep_7 rfl ?_
  refine gr_0_0 hG dX10_keep_8 fl_X10_13 R0 ?_
  refine gi_3_3 hG dX10_keep_11 fl_X10_89 R0 (fun x1 ex1 lx1 ux1 => ?_)
  refine jv4 hG dX10_keep_14 ct_X6_refusal lk_X10_252 ⟨rfl, rfl⟩ (by decide) ⟨Nat.le_of_ble_eq_true rfl, Nat.le_of_ble_eq_true rfl, Nat.le_of_ble_eq_true rfl⟩ (Nat.le_of_ble_eq_true rfl) ⟨aa, ab, ac, x1, rfl, rfl, R0, by omega⟩ (fun r2 t3 pr2 => ?_)
  obtain ⟨x4, rfl, rfl, br2⟩ := pr2 _ _ _ _ rfl
  show G 17 [some (.inr (.inr (0, 0))), some (.inl aa), some (.inl ab), some (.inl ac), none, none] [.inl x4] 122 s0
  refine px_istore hG dX10_keep_17 (Nat.le_of_ble_eq_true rfl) (L2 := [some (.inr (.inr (0, 0))), some (.inl aa), some (.inl ab), some (.inl ac), some (.inl x4), none]) rfl ?_
  refine px_iload hG dX10_keep_19 rfl ?_
  refine px_if_eq hG dX10_keep_21 (tgt := 27) (by decide) ⟨by omega, by omega⟩ (fun c5 => ?_) (fun c5 => ?_)
  · refine px_iconst hG dX10_keep_27 ?_
    refine px_istore hG dX10_keep_28 (Nat.le_of_ble_eq_true rfl) (L2 := [some (.inr (.inr (0, 0))), some (.inl aa), some (.inl ab), some (.inl ac), some (.inl x4), some (.inl 1)]) rfl ?_
    have L30 : ∀ (N : Nat) (v5_6 : Int) (s7 : pm_H), pm_Rng s7 → pm_Fr [(38, none)] s0 s7 → s7 3 0 3 = x1 → ((1 ≤ v5_6 ∧ v5_6 ≤ 10000)) → (10001 - v5_6).toNat < N → G 30 [some (.inr (.inr (0, 0))), some (.inl aa), none, some (.inl ac), none, some (.inl v5_6)] [] 122 s7 := by
      intro N
      induction N with
      | zero => intro v5_6 s7 R8 F9 k11 inv12 hm13; exact absurd hm13 (Nat.not_lt_zero _)
      | succ N ih10 =>
        intro v5_6 s7 R8 F9 k11 inv12 hm13
        have jj14 := F9 3 0 0 rfl
        have jj15 := F9 3 0 1 rfl
        have jj16 := F9 3 0 2 rfl
        have jj17 := F9 3 0 3 rfl
        refine px_iload hG dX10_keep_30 rfl ?_
        refine px_aload_n hG dX10_keep_32 rfl ?_
        refine gr_0_0 hG dX10_keep_33 fl_X10_13 R8 ?_
        refine gi_3_3 hG dX10_keep_36 fl_X10_89 R8 (fun x18 ex18 lx18 ux18 => ?_)
        have ex18 : s0 3 0 3 = x18 := (F9 3 0 3 rfl).symm.trans ex18
        refine px_ic_gt hG dX10_keep_39 (tgt := 72) (by decide) ⟨by omega, by omega⟩ ⟨by omega, by omega⟩ (fun c19 => ?_) (fun c19 => ?_)
        · refine px_aload_n hG dX10_keep_72 rfl ?_
          refine gr_0_0 hG dX10_keep_73 fl_X10_13 R8 ?_
          refine gi_3_3 hG dX10_keep_76 fl_X10_89 R8 (fun x20 ex20 lx20 ux20 => ?_)
          have ex20 : s0 3 0 3 = x20 := (F9 3 0 3 rfl).symm.trans ex20
          have jj21 := F9 3 0 0 rfl
          have jj22 := F9 3 0 1 rfl
          have jj23 := F9 3 0 2 rfl
          have jj24 := F9 3 0 3 rfl
          exact px_iret (st := []) hG dX10_keep_79 rfl rfl (fun aa_1 ab_1 ac_1 ee => by cases ee; exact ⟨_, rfl, R8, F9, by omega⟩)
        · refine px_aload_n hG dX10_keep_42 rfl ?_
          refine gr_0_8 hG dX10_keep_43 fl_X10_73 R8 ?_
          refine px_iload_n hG dX10_keep_46 rfl ?_
          refine px_iload_n hG dX10_keep_47 rfl ?_
          refine px_iload hG dX10_keep_48 rfl ?_
          refine px_iadd hG dX10_keep_50 ?_
          refine px_iconst hG dX10_keep_51 ?_
          refine px_isub hG dX10_keep_52 ?_
          refine px_aload_n hG dX10_keep_53 rfl ?_
          refine gr_0_0 hG dX10_keep_54 fl_X10_13 R8 ?_
          refine gr_3_5 hG dX10_keep_57 fl_X10_106 R8 ?_
          refine px_iload hG dX10_keep_60 rfl ?_
          refine al_4 hG dX10_keep_62 R8 (by omega) (fun x25 ex25 lx25 ux25 => ?_)
          refine jv3 hG dX10_keep_63 ct_X6_put lk_X10_328 ⟨rfl, rfl⟩ (by decide) ⟨Nat.le_of_ble_eq_true rfl, Nat.le_of_ble_eq_true rfl, Nat.le_of_ble_eq_true rfl⟩ (Nat.le_of_ble_eq_true rfl) ⟨aa, ((ac + v5_6) - 1), x25, rfl, rfl, R8, by omega⟩ (fun r26 t28 pr26 => ?_)
          obtain ⟨rfl, Rt28, Ft28⟩ := pr26 _ _ _ rfl
          have Ff30 := pm_Fr_tr F9 Ft28 (M := [(38, none)]) rfl
          have jj31 := Ft28 3 0 0 rfl
          have jj32 := Ft28 3 0 1 rfl
          have jj33 := Ft28 3 0 2 rfl
          have jj34 := Ft28 3 0 3 rfl
          have k35 : t28 3 0 3 = x1 := (Ft28 3 0 3 rfl).trans k11
          show G 66 [some (.inr (.inr (0, 0))), some (.inl aa), none, some (.inl ac), none, some (.inl v5_6)] [] 122 t28
          refine px_iinc hG dX10_keep_66 (Nat.le_of_ble_eq_true rfl) rfl (L2 := [some (.inr (.inr (0, 0))), some (.inl aa), none, some (.inl ac), none, some (.inl (v5_6 + 1))]) rfl ?_
          refine px_goto hG dX10_keep_69 (tgt := 30) (by decide) ?_
          exact ih10 (v5_6 + 1) t28 Rt28 Ff30 k35 (by omega) (by omega)
    refine px_weak hG (L2 := [some (.inr (.inr (0, 0))), some (.inl aa), none, some (.inl ac), none, some (.inl 1)]) ⟨Or.inr rfl, Or.inr rfl, Or.inl rfl, Or.inr rfl, Or.inl rfl, Or.inr rfl, trivial⟩ ?_
    exact L30 _ 1 s0 R0 pm_Fr_rf ex1 (by omega) (Nat.lt_succ_self _)
  · refine px_iload hG dX10_keep_24 rfl ?_
    exact px_iret (st := []) hG dX10_keep_26 rfl rfl (fun aa_1 ab_1 ac_1 ee => by cases ee; exact ⟨_, rfl, R0, pm_Fr_rf, by omega⟩))
