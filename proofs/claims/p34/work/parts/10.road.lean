/-! ===== Road ===== -/
def pre_X5_isFree (as : List pm_V) (n : Nat) (σ : pm_H) : Prop := ∃ full pl : Int, as = [.inr (.inr (3, 0)), .inl full, .inl pl] ∧ n = 122 ∧ pm_Rng σ
def po_X5_isFree (as : List pm_V) (_ : Nat) (σ : pm_H) (r : Option pm_V) (τ : pm_H) : Prop := ∀ full pl : Int, as = [.inr (.inr (3, 0)), .inl full, .inl pl] → ∃ v : Int, r = some (.inl v) ∧ σ = τ ∧ ((v = 0 ∨ v = 1))
set_option maxRecDepth 20000 in
set_option maxHeartbeats 4000000 in
theorem ct_X5_isFree : pm_Ct yX5_isFree cX5_isFree 3 (some .boolean) 0 0 pre_X5_isFree po_X5_isFree := pm_sound (ini := false) (by decide +kernel) pk_X5_isFree (fun h => absurd h (by decide)) (by
  rintro as n s0 ⟨full, pl, rfl, rfl, R0⟩
  refine ⟨by decide, Nat.le_of_ble_eq_true rfl, fun G hG => ?_⟩
  have hG : pm_Rules (RX5, 0, 122, cX5_isFree, -1, (fun _ => 0), false, (some .boolean), po_X5_isFree [.inr (.inr (3, 0)), .inl full, .inl pl] 122 s0) G := hG
  show G 0 [some (.inr (.inr (3, 0))), some (.inl full), some (.inl pl)] [] 122 s0
  refine px_iload_n hG dX5_isFree_0 rfl ?_
  refine px_iload_n hG dX5_isFree_1 rfl ?_
  refine px_iconst hG dX5_isFree_2 ?_
  refine px_isub hG dX5_isFree_3 ?_
  refine px_ishr hG dX5_isFree_4 ?_
  generalize hx1 : pm_ishr full (pl - 1) = x1
  have bx1 := pm_ishr_in full (pl - 1) x1 hx1
  refine px_iconst hG dX5_isFree_5 ?_
  refine px_iand hG dX5_isFree_6 ?_
  generalize hx2 : pm_iand x1 1 = x2
  have bx2 := pm_and1 hx2
  refine px_if_ne hG dX5_isFree_7 (tgt := 14) (by decide) ⟨by omega, by omega⟩ (fun c3 => ?_) (fun c3 => ?_)
  · refine px_iconst hG dX5_isFree_14 ?_
    exact px_zret (st := []) hG dX5_isFree_15 rfl (by omega) rfl (fun full_1 pl_1 ee => by cases ee; exact ⟨_, rfl, rfl, by omega⟩)
  · refine px_iconst hG dX5_isFree_10 ?_
    refine px_goto hG dX5_isFree_11 (tgt := 15) (by decide) ?_
    exact px_zret (st := []) hG dX5_isFree_15 rfl (by omega) rfl (fun full_1 pl_1 ee => by cases ee; exact ⟨_, rfl, rfl, by omega⟩))
def pre_X5_hasPlace (as : List pm_V) (n : Nat) (σ : pm_H) : Prop := ∃ pl : Int, as = [.inr (.inr (3, 0)), .inl pl] ∧ n = 122 ∧ pm_Rng σ ∧ (pm_in pl)
def po_X5_hasPlace (as : List pm_V) (_ : Nat) (σ : pm_H) (r : Option pm_V) (τ : pm_H) : Prop := ∀ pl : Int, as = [.inr (.inr (3, 0)), .inl pl] → ∃ v : Int, r = some (.inl v) ∧ σ = τ ∧ ((v = 0 ∨ v = 1) ∧ (v = 1 → 1 ≤ pl ∧ pl ≤ σ 3 0 1))
set_option maxRecDepth 20000 in
set_option maxHeartbeats 4000000 in
theorem ct_X5_hasPlace : pm_Ct yX5_hasPlace cX5_hasPlace 2 (some .boolean) 0 0 pre_X5_hasPlace po_X5_hasPlace := pm_sound (ini := false) (by decide +kernel) pk_X5_hasPlace (fun h => absurd h (by decide)) (by
  rintro as n s0 ⟨pl, rfl, rfl, R0, hpre⟩
  refine ⟨by decide, Nat.le_of_ble_eq_true rfl, fun G hG => ?_⟩
  have hG : pm_Rules (RX5, 0, 122, cX5_hasPlace, -1, (fun _ => 0), false, (some .boolean), po_X5_hasPlace [.inr (.inr (3, 0)), .inl pl] 122 s0) G := hG
  show G 0 [some (.inr (.inr (3, 0))), some (.inl pl)] [] 122 s0
  refine px_iload_n hG dX5_hasPlace_0 rfl ?_
  refine px_iconst hG dX5_hasPlace_1 ?_
  refine px_ic_lt hG dX5_hasPlace_2 (tgt := 17) (by decide) ⟨by omega, by omega⟩ ⟨by omega, by omega⟩ (fun c1 => ?_) (fun c1 => ?_)
  · refine px_iconst hG dX5_hasPlace_17 ?_
    exact px_zret (st := []) hG dX5_hasPlace_18 rfl (by omega) rfl (fun pl_1 ee => by cases ee; exact ⟨_, rfl, rfl, by omega⟩)
  · refine px_iload_n hG dX5_hasPlace_5 rfl ?_
    refine px_aload_n hG dX5_hasPlace_6 rfl ?_
    refine gi_3_1 hG dX5_hasPlace_7 fl_X5_15 R0 (fun x2 ex2 lx2 ux2 => ?_)
    refine px_ic_gt hG dX5_hasPlace_10 (tgt := 17) (by decide) ⟨by omega, by omega⟩ ⟨by omega, by omega⟩ (fun c3 => ?_) (fun c3 => ?_)
    · refine px_iconst hG dX5_hasPlace_17 ?_
      exact px_zret (st := []) hG dX5_hasPlace_18 rfl (by omega) rfl (fun pl_1 ee => by cases ee; exact ⟨_, rfl, rfl, by omega⟩)
    · refine px_iconst hG dX5_hasPlace_13 ?_
      refine px_goto hG dX5_hasPlace_14 (tgt := 18) (by decide) ?_
      exact px_zret (st := []) hG dX5_hasPlace_18 rfl (by omega) rfl (fun pl_1 ee => by cases ee; exact ⟨_, rfl, rfl, by omega⟩))
def pre_X5_hasCar (as : List pm_V) (n : Nat) (σ : pm_H) : Prop := ∃ car : Int, as = [.inr (.inr (3, 0)), .inl car] ∧ n = 122 ∧ pm_Rng σ ∧ (pm_in car)
def po_X5_hasCar (as : List pm_V) (_ : Nat) (σ : pm_H) (r : Option pm_V) (τ : pm_H) : Prop := ∀ car : Int, as = [.inr (.inr (3, 0)), .inl car] → ∃ v : Int, r = some (.inl v) ∧ σ = τ ∧ ((v = 0 ∨ v = 1) ∧ (v = 1 → 1 ≤ car ∧ car ≤ σ 3 0 3))
set_option maxRecDepth 20000 in
set_option maxHeartbeats 4000000 in
theorem ct_X5_hasCar : pm_Ct yX5_hasCar cX5_hasCar 2 (some .boolean) 0 0 pre_X5_hasCar po_X5_hasCar := pm_sound (ini := false) (by decide +kernel) pk_X5_hasCar (fun h => absurd h (by decide)) (by
  rintro as n s0 ⟨car, rfl, rfl, R0, hpre⟩
  refine ⟨by decide, Nat.le_of_ble_eq_true rfl, fun G hG => ?_⟩
  have hG : pm_Rules (RX5, 0, 122, cX5_hasCar, -1, (fun _ => 0), false, (some .boolean), po_X5_hasCar [.inr (.inr (3, 0)), .inl car] 122 s0) G := hG
  show G 0 [some (.inr (.inr (3, 0))), some (.inl car)] [] 122 s0
  refine px_iload_n hG dX5_hasCar_0 rfl ?_
  refine px_iconst hG dX5_hasCar_1 ?_
  refine px_ic_lt hG dX5_hasCar_2 (tgt := 17) (by decide) ⟨by omega, by omega⟩ ⟨by omega, by omega⟩ (fun c1 => ?_) (fun c1 => ?_)
  · refine px_iconst hG dX5_hasCar_17 ?_
    exact px_zret (st := []) hG dX5_hasCar_18 rfl (by omega) rfl (fun car_1 ee => by cases ee; exact ⟨_, rfl, rfl, by omega⟩)
  · refine px_iload_n hG dX5_hasCar_5 rfl ?_
    refine px_aload_n hG dX5_hasCar_6 rfl ?_
    refine gi_3_3 hG dX5_hasCar_7 fl_X5_21 R0 (fun x2 ex2 lx2 ux2 => ?_)
    refine px_ic_gt hG dX5_hasCar_10 (tgt := 17) (by decide) ⟨by omega, by omega⟩ ⟨by omega, by omega⟩ (fun c3 => ?_) (fun c3 => ?_)
    · refine px_iconst hG dX5_hasCar_17 ?_
      exact px_zret (st := []) hG dX5_hasCar_18 rfl (by omega) rfl (fun car_1 ee => by cases ee; exact ⟨_, rfl, rfl, by omega⟩)
    · refine px_iconst hG dX5_hasCar_13 ?_
      refine px_goto hG dX5_hasCar_14 (tgt := 18) (by decide) ?_
      exact px_zret (st := []) hG dX5_hasCar_18 rfl (by omega) rfl (fun car_1 ee => by cases ee; exact ⟨_, rfl, rfl, by omega⟩))
def pre_X5_firstFree (as : List pm_V) (n : Nat) (σ : pm_H) : Prop := ∃ full fr : Int, as = [.inr (.inr (3, 0)), .inl full, .inl fr] ∧ n = 122 ∧ pm_Rng σ ∧ (0 ≤ fr ∧ fr ≤ 10 ∧ (σ 3 0 0 = 2 → 0 ≤ σ 3 0 2 ∧ σ 3 0 2 ≤ 9))
def po_X5_firstFree (as : List pm_V) (_ : Nat) (σ : pm_H) (r : Option pm_V) (τ : pm_H) : Prop := ∀ full fr : Int, as = [.inr (.inr (3, 0)), .inl full, .inl fr] → ∃ v : Int, r = some (.inl v) ∧ σ = τ ∧ (0 ≤ v ∧ v ≤ 10)
set_option maxRecDepth 20000 in
set_option maxHeartbeats 4000000 in
theorem ct_X5_firstFree : pm_Ct yX5_firstFree cX5_firstFree 4 (some .int) 1 0 pre_X5_firstFree po_X5_firstFree := pm_sound (ini := false) (by decide +kernel) pk_X5_firstFree (fun h => absurd h (by decide)) (by
  rintro as n s0 ⟨full, fr, rfl, rfl, R0, hpre⟩
  refine ⟨by decide, Nat.le_of_ble_eq_true rfl, fun G hG => ?_⟩
  have hG : pm_Rules (RX5, 1, 122, cX5_firstFree, -1, (fun _ => 0), false, (some .int), po_X5_firstFree [.inr (.inr (3, 0)), .inl full, .inl fr] 122 s0) G := hG
  show G 0 [some (.inr (.inr (3, 0))), some (.inl full), some (.inl fr), none] [] 122 s0
  refine px_aload_n hG dX5_firstFree_0 rfl ?_
  refine gi_3_0 hG dX5_firstFree_1 fl_X5_9 R0 (fun x1 ex1 lx1 ux1 => ?_)
  refine px_iconst hG dX5_firstFree_4 ?_
  refine px_ic_ne hG dX5_firstFree_5 (tgt := 53) (by decide) ⟨by omega, by omega⟩ ⟨by omega, by omega⟩ (fun c2 => ?_) (fun c2 => ?_)
  · refine px_iload_n hG dX5_firstFree_53 rfl ?_
    refine px_istore_n hG dX5_firstFree_54 (Nat.le_of_ble_eq_true rfl) (L2 := [some (.inr (.inr (3, 0))), some (.inl full), some (.inl fr), some (.inl fr)]) rfl ?_
    have L55 : ∀ (N : Nat) (v3_3 : Int), ((fr ≤ v3_3 ∧ v3_3 ≤ 10000)) → (10001 - v3_3).toNat < N → G 55 [some (.inr (.inr (3, 0))), some (.inl full), some (.inl fr), some (.inl v3_3)] [] 122 s0 := by
      intro N
      induction N with
      | zero => intro v3_3 inv5 hm6; exact absurd hm6 (Nat.not_lt_zero _)
      | succ N ih4 =>
        intro v3_3 inv5 hm6
        refine px_iload_n hG dX5_firstFree_55 rfl ?_
        refine px_aload_n hG dX5_firstFree_56 rfl ?_
        refine gi_3_1 hG dX5_firstFree_57 fl_X5_15 R0 (fun x7 ex7 lx7 ux7 => ?_)
        refine px_ic_gt hG dX5_firstFree_60 (tgt := 80) (by decide) ⟨by omega, by omega⟩ ⟨by omega, by omega⟩ (fun c8 => ?_) (fun c8 => ?_)
        · refine px_iconst hG dX5_firstFree_80 ?_
          refine px_istore_n hG dX5_firstFree_81 (Nat.le_of_ble_eq_true rfl) (L2 := [some (.inr (.inr (3, 0))), some (.inl full), some (.inl fr), some (.inl 1)]) rfl ?_
          have L82 : ∀ (N : Nat) (v3_9 : Int), ((1 ≤ v3_9 ∧ v3_9 ≤ 10000)) → (10001 - v3_9).toNat < N → G 82 [some (.inr (.inr (3, 0))), some (.inl full), some (.inl fr), some (.inl v3_9)] [] 122 s0 := by
            intro N
            induction N with
            | zero => intro v3_9 inv11 hm12; exact absurd hm12 (Nat.not_lt_zero _)
            | succ N ih10 =>
              intro v3_9 inv11 hm12
              refine px_aload_n hG dX5_firstFree_82 rfl ?_
              refine gi_3_0 hG dX5_firstFree_83 fl_X5_9 R0 (fun x13 ex13 lx13 ux13 => ?_)
              refine px_iconst hG dX5_firstFree_86 ?_
              refine px_ic_ne hG dX5_firstFree_87 (tgt := 112) (by decide) ⟨by omega, by omega⟩ ⟨by omega, by omega⟩ (fun c14 => ?_) (fun c14 => ?_)
              · refine px_iconst hG dX5_firstFree_112 ?_
                exact px_iret (st := []) hG dX5_firstFree_113 rfl rfl (fun full_1 fr_1 ee => by cases ee; exact ⟨_, rfl, rfl, by omega⟩)
              · refine px_iload_n hG dX5_firstFree_90 rfl ?_
                refine px_iload_n hG dX5_firstFree_91 rfl ?_
                refine px_ic_ge hG dX5_firstFree_92 (tgt := 112) (by decide) ⟨by omega, by omega⟩ ⟨by omega, by omega⟩ (fun c15 => ?_) (fun c15 => ?_)
                · refine px_iconst hG dX5_firstFree_112 ?_
                  exact px_iret (st := []) hG dX5_firstFree_113 rfl rfl (fun full_1 fr_1 ee => by cases ee; exact ⟨_, rfl, rfl, by omega⟩)
                · refine px_aload_n hG dX5_firstFree_95 rfl ?_
                  refine px_iload_n hG dX5_firstFree_96 rfl ?_
                  refine px_iload_n hG dX5_firstFree_97 rfl ?_
                  refine jv2 hG dX5_firstFree_98 ct_X5_isFree lk_X5_61 ⟨rfl, rfl⟩ (by decide) ⟨Nat.le_of_ble_eq_true rfl, Nat.le_of_ble_eq_true rfl, Nat.le_of_ble_eq_true rfl⟩ (Nat.le_of_ble_eq_true rfl) ⟨full, v3_9, rfl, rfl, R0⟩ (fun r16 t17 pr16 => ?_)
                  obtain ⟨x18, rfl, rfl, br16⟩ := pr16 _ _ rfl
                  show G 101 [some (.inr (.inr (3, 0))), some (.inl full), some (.inl fr), some (.inl v3_9)] [.inl x18] 122 s0
                  refine px_if_eq hG dX5_firstFree_101 (tgt := 106) (by decide) ⟨by omega, by omega⟩ (fun c19 => ?_) (fun c19 => ?_)
                  · refine px_iinc hG dX5_firstFree_106 (Nat.le_of_ble_eq_true rfl) rfl (L2 := [some (.inr (.inr (3, 0))), some (.inl full), some (.inl fr), some (.inl (v3_9 + 1))]) rfl ?_
                    refine px_goto hG dX5_firstFree_109 (tgt := 82) (by decide) ?_
                    exact ih10 (v3_9 + 1) (by omega) (by omega)
                  · refine px_iload_n hG dX5_firstFree_104 rfl ?_
                    exact px_iret (st := []) hG dX5_firstFree_105 rfl rfl (fun full_1 fr_1 ee => by cases ee; exact ⟨_, rfl, rfl, by omega⟩)
          exact L82 _ 1 (by omega) (Nat.lt_succ_self _)
        · refine px_aload_n hG dX5_firstFree_63 rfl ?_
          refine px_iload_n hG dX5_firstFree_64 rfl ?_
          refine px_iload_n hG dX5_firstFree_65 rfl ?_
          refine jv2 hG dX5_firstFree_66 ct_X5_isFree lk_X5_61 ⟨rfl, rfl⟩ (by decide) ⟨Nat.le_of_ble_eq_true rfl, Nat.le_of_ble_eq_true rfl, Nat.le_of_ble_eq_true rfl⟩ (Nat.le_of_ble_eq_true rfl) ⟨full, v3_3, rfl, rfl, R0⟩ (fun r20 t21 pr20 => ?_)
          obtain ⟨x22, rfl, rfl, br20⟩ := pr20 _ _ rfl
          show G 69 [some (.inr (.inr (3, 0))), some (.inl full), some (.inl fr), some (.inl v3_3)] [.inl x22] 122 s0
          refine px_if_eq hG dX5_firstFree_69 (tgt := 74) (by decide) ⟨by omega, by omega⟩ (fun c23 => ?_) (fun c23 => ?_)
          · refine px_iinc hG dX5_firstFree_74 (Nat.le_of_ble_eq_true rfl) rfl (L2 := [some (.inr (.inr (3, 0))), some (.inl full), some (.inl fr), some (.inl (v3_3 + 1))]) rfl ?_
            refine px_goto hG dX5_firstFree_77 (tgt := 55) (by decide) ?_
            exact ih4 (v3_3 + 1) (by omega) (by omega)
          · refine px_iload_n hG dX5_firstFree_72 rfl ?_
            exact px_iret (st := []) hG dX5_firstFree_73 rfl rfl (fun full_1 fr_1 ee => by cases ee; exact ⟨_, rfl, rfl, by omega⟩)
    exact L55 _ fr (by omega) (Nat.lt_succ_self _)
  · refine px_aload_n hG dX5_firstFree_8 rfl ?_
    refine px_iload_n hG dX5_firstFree_9 rfl ?_
    refine px_iload_n hG dX5_firstFree_10 rfl ?_
    refine jv2 hG dX5_firstFree_11 ct_X5_isFree lk_X5_61 ⟨rfl, rfl⟩ (by decide) ⟨Nat.le_of_ble_eq_true rfl, Nat.le_of_ble_eq_true rfl, Nat.le_of_ble_eq_true rfl⟩ (Nat.le_of_ble_eq_true rfl) ⟨full, fr, rfl, rfl, R0⟩ (fun r24 t25 pr24 => ?_)
    obtain ⟨x26, rfl, rfl, br24⟩ := pr24 _ _ rfl
    show G 14 [some (.inr (.inr (3, 0))), some (.inl full), some (.inl fr), none] [.inl x26] 122 s0
    refine px_if_ne hG dX5_firstFree_14 (tgt := 53) (by decide) ⟨by omega, by omega⟩ (fun c27 => ?_) (fun c27 => ?_)
    · refine px_iload_n hG dX5_firstFree_53 rfl ?_
      refine px_istore_n hG dX5_firstFree_54 (Nat.le_of_ble_eq_true rfl) (L2 := [some (.inr (.inr (3, 0))), some (.inl full), some (.inl fr), some (.inl fr)]) rfl ?_
      have L29 : ∀ (N : Nat) (v3_28 : Int), ((fr ≤ v3_28 ∧ v3_28 ≤ 10000)) → (10001 - v3_28).toNat < N → G 55 [some (.inr (.inr (3, 0))), some (.inl full), some (.inl fr), some (.inl v3_28)] [] 122 s0 := by
        intro N
        induction N with
        | zero => intro v3_28 inv31 hm32; exact absurd hm32 (Nat.not_lt_zero _)
        | succ N ih30 =>
          intro v3_28 inv31 hm32
          refine px_iload_n hG dX5_firstFree_55 rfl ?_
          refine px_aload_n hG dX5_firstFree_56 rfl ?_
          refine gi_3_1 hG dX5_firstFree_57 fl_X5_15 R0 (fun x33 ex33 lx33 ux33 => ?_)
          refine px_ic_gt hG dX5_firstFree_60 (tgt := 80) (by decide) ⟨by omega, by omega⟩ ⟨by omega, by omega⟩ (fun c34 => ?_) (fun c34 => ?_)
          · refine px_iconst hG dX5_firstFree_80 ?_
            refine px_istore_n hG dX5_firstFree_81 (Nat.le_of_ble_eq_true rfl) (L2 := [some (.inr (.inr (3, 0))), some (.inl full), some (.inl fr), some (.inl 1)]) rfl ?_
            have L36 : ∀ (N : Nat) (v3_35 : Int), ((1 ≤ v3_35 ∧ v3_35 ≤ 10000)) → (10001 - v3_35).toNat < N → G 82 [some (.inr (.inr (3, 0))), some (.inl full), some (.inl fr), some (.inl v3_35)] [] 122 s0 := by
              intro N
              induction N with
              | zero => intro v3_35 inv38 hm39; exact absurd hm39 (Nat.not_lt_zero _)
              | succ N ih37 =>
                intro v3_35 inv38 hm39
                refine px_aload_n hG dX5_firstFree_82 rfl ?_
                refine gi_3_0 hG dX5_firstFree_83 fl_X5_9 R0 (fun x40 ex40 lx40 ux40 => ?_)
                refine px_iconst hG dX5_firstFree_86 ?_
                refine px_ic_ne hG dX5_firstFree_87 (tgt := 112) (by decide) ⟨by omega, by omega⟩ ⟨by omega, by omega⟩ (fun c41 => ?_) (fun c41 => ?_)
                · refine px_iconst hG dX5_firstFree_112 ?_
                  exact px_iret (st := []) hG dX5_firstFree_113 rfl rfl (fun full_1 fr_1 ee => by cases ee; exact ⟨_, rfl, rfl, by omega⟩)
                · refine px_iload_n hG dX5_firstFree_90 rfl ?_
                  refine px_iload_n hG dX5_firstFree_91 rfl ?_
                  refine px_ic_ge hG dX5_firstFree_92 (tgt := 112) (by decide) ⟨by omega, by omega⟩ ⟨by omega, by omega⟩ (fun c42 => ?_) (fun c42 => ?_)
                  · refine px_iconst hG dX5_firstFree_112 ?_
                    exact px_iret (st := []) hG dX5_firstFree_113 rfl rfl (fun full_1 fr_1 ee => by cases ee; exact ⟨_, rfl, rfl, by omega⟩)
                  · refine px_aload_n hG dX5_firstFree_95 rfl ?_
                    refine px_iload_n hG dX5_firstFree_96 rfl ?_
                    refine px_iload_n hG dX5_firstFree_97 rfl ?_
                    refine jv2 hG dX5_firstFree_98 ct_X5_isFree lk_X5_61 ⟨rfl, rfl⟩ (by decide) ⟨Nat.le_of_ble_eq_true rfl, Nat.le_of_ble_eq_true rfl, Nat.le_of_ble_eq_true rfl⟩ (Nat.le_of_ble_eq_true rfl) ⟨full, v3_35, rfl, rfl, R0⟩ (fun r43 t44 pr43 => ?_)
                    obtain ⟨x45, rfl, rfl, br43⟩ := pr43 _ _ rfl
                    show G 101 [some (.inr (.inr (3, 0))), some (.inl full), some (.inl fr), some (.inl v3_35)] [.inl x45] 122 s0
                    refine px_if_eq hG dX5_firstFree_101 (tgt := 106) (by decide) ⟨by omega, by omega⟩ (fun c46 => ?_) (fun c46 => ?_)
                    · refine px_iinc hG dX5_firstFree_106 (Nat.le_of_ble_eq_true rfl) rfl (L2 := [some (.inr (.inr (3, 0))), some (.inl full), some (.inl fr), some (.inl (v3_35 + 1))]) rfl ?_
                      refine px_goto hG dX5_firstFree_109 (tgt := 82) (by decide) ?_
                      exact ih37 (v3_35 + 1) (by omega) (by omega)
                    · refine px_iload_n hG dX5_firstFree_104 rfl ?_
                      exact px_iret (st := []) hG dX5_firstFree_105 rfl rfl (fun full_1 fr_1 ee => by cases ee; exact ⟨_, rfl, rfl, by omega⟩)
            exact L36 _ 1 (by omega) (Nat.lt_succ_self _)
          · refine px_aload_n hG dX5_firstFree_63 rfl ?_
            refine px_iload_n hG dX5_firstFree_64 rfl ?_
            refine px_iload_n hG dX5_firstFree_65 rfl ?_
            refine jv2 hG dX5_firstFree_66 ct_X5_isFree lk_X5_61 ⟨rfl, rfl⟩ (by decide) ⟨Nat.le_of_ble_eq_true rfl, Nat.le_of_ble_eq_true rfl, Nat.le_of_ble_eq_true rfl⟩ (Nat.le_of_ble_eq_true rfl) ⟨full, v3_28, rfl, rfl, R0⟩ (fun r47 t48 pr47 => ?_)
            obtain ⟨x49, rfl, rfl, br47⟩ := pr47 _ _ rfl
            show G 69 [some (.inr (.inr (3, 0))), some (.inl full), some (.inl fr), some (.inl v3_28)] [.inl x49] 122 s0
            refine px_if_eq hG dX5_firstFree_69 (tgt := 74) (by decide) ⟨by omega, by omega⟩ (fun c50 => ?_) (fun c50 => ?_)
            · refine px_iinc hG dX5_firstFree_74 (Nat.le_of_ble_eq_true rfl) rfl (L2 := [some (.inr (.inr (3, 0))), some (.inl full), some (.inl fr), some (.inl (v3_28 + 1))]) rfl ?_
              refine px_goto hG dX5_firstFree_77 (tgt := 55) (by decide) ?_
              exact ih30 (v3_28 + 1) (by omega) (by omega)
            · refine px_iload_n hG dX5_firstFree_72 rfl ?_
              exact px_iret (st := []) hG dX5_firstFree_73 rfl rfl (fun full_1 fr_1 ee => by cases ee; exact ⟨_, rfl, rfl, by omega⟩)
      exact L29 _ fr (by omega) (Nat.lt_succ_self _)
    · refine px_iload_n hG dX5_firstFree_17 rfl ?_
      refine px_iconst hG dX5_firstFree_18 ?_
      refine px_isub hG dX5_firstFree_19 ?_
      refine px_istore_n hG dX5_firstFree_20 (Nat.le_of_ble_eq_true rfl) (L2 := [some (.inr (.inr (3, 0))), some (.inl full), some (.inl fr), some (.inl (fr - 1))]) rfl ?_
      have L21 : ∀ (N : Nat) (v3_51 : Int), ((-10000 ≤ v3_51 ∧ v3_51 ≤ fr - 1)) → (v3_51 + 10001).toNat < N → G 21 [some (.inr (.inr (3, 0))), some (.inl full), some (.inl fr), some (.inl v3_51)] [] 122 s0 := by
        intro N
        induction N with
        | zero => intro v3_51 inv53 hm54; exact absurd hm54 (Nat.not_lt_zero _)
        | succ N ih52 =>
          intro v3_51 inv53 hm54
          refine px_iload_n hG dX5_firstFree_21 rfl ?_
          refine px_iconst hG dX5_firstFree_22 ?_
          refine px_ic_lt hG dX5_firstFree_23 (tgt := 53) (by decide) ⟨by omega, by omega⟩ ⟨by omega, by omega⟩ (fun c55 => ?_) (fun c55 => ?_)
          · refine px_iload_n hG dX5_firstFree_53 rfl ?_
            refine px_istore_n hG dX5_firstFree_54 (Nat.le_of_ble_eq_true rfl) (L2 := [some (.inr (.inr (3, 0))), some (.inl full), some (.inl fr), some (.inl fr)]) rfl ?_
            have L57 : ∀ (N : Nat) (v3_56 : Int), ((fr ≤ v3_56 ∧ v3_56 ≤ 10000)) → (10001 - v3_56).toNat < N → G 55 [some (.inr (.inr (3, 0))), some (.inl full), some (.inl fr), some (.inl v3_56)] [] 122 s0 := by
              intro N
              induction N with
              | zero => intro v3_56 inv59 hm60; exact absurd hm60 (Nat.not_lt_zero _)
              | succ N ih58 =>
                intro v3_56 inv59 hm60
                refine px_iload_n hG dX5_firstFree_55 rfl ?_
                refine px_aload_n hG dX5_firstFree_56 rfl ?_
                refine gi_3_1 hG dX5_firstFree_57 fl_X5_15 R0 (fun x61 ex61 lx61 ux61 => ?_)
                refine px_ic_gt hG dX5_firstFree_60 (tgt := 80) (by decide) ⟨by omega, by omega⟩ ⟨by omega, by omega⟩ (fun c62 => ?_) (fun c62 => ?_)
                · refine px_iconst hG dX5_firstFree_80 ?_
                  refine px_istore_n hG dX5_firstFree_81 (Nat.le_of_ble_eq_true rfl) (L2 := [some (.inr (.inr (3, 0))), some (.inl full), some (.inl fr), some (.inl 1)]) rfl ?_
                  have L64 : ∀ (N : Nat) (v3_63 : Int), ((1 ≤ v3_63 ∧ v3_63 ≤ 10000)) → (10001 - v3_63).toNat < N → G 82 [some (.inr (.inr (3, 0))), some (.inl full), some (.inl fr), some (.inl v3_63)] [] 122 s0 := by
                    intro N
                    induction N with
                    | zero => intro v3_63 inv66 hm67; exact absurd hm67 (Nat.not_lt_zero _)
                    | succ N ih65 =>
                      intro v3_63 inv66 hm67
                      refine px_aload_n hG dX5_firstFree_82 rfl ?_
                      refine gi_3_0 hG dX5_firstFree_83 fl_X5_9 R0 (fun x68 ex68 lx68 ux68 => ?_)
                      refine px_iconst hG dX5_firstFree_86 ?_
                      refine px_ic_ne hG dX5_firstFree_87 (tgt := 112) (by decide) ⟨by omega, by omega⟩ ⟨by omega, by omega⟩ (fun c69 => ?_) (fun c69 => ?_)
                      · refine px_iconst hG dX5_firstFree_112 ?_
                        exact px_iret (st := []) hG dX5_firstFree_113 rfl rfl (fun full_1 fr_1 ee => by cases ee; exact ⟨_, rfl, rfl, by omega⟩)
                      · refine px_iload_n hG dX5_firstFree_90 rfl ?_
                        refine px_iload_n hG dX5_firstFree_91 rfl ?_
                        refine px_ic_ge hG dX5_firstFree_92 (tgt := 112) (by decide) ⟨by omega, by omega⟩ ⟨by omega, by omega⟩ (fun c70 => ?_) (fun c70 => ?_)
                        · refine px_iconst hG dX5_firstFree_112 ?_
                          exact px_iret (st := []) hG dX5_firstFree_113 rfl rfl (fun full_1 fr_1 ee => by cases ee; exact ⟨_, rfl, rfl, by omega⟩)
                        · refine px_aload_n hG dX5_firstFree_95 rfl ?_
                          refine px_iload_n hG dX5_firstFree_96 rfl ?_
                          refine px_iload_n hG dX5_firstFree_97 rfl ?_
                          refine jv2 hG dX5_firstFree_98 ct_X5_isFree lk_X5_61 ⟨rfl, rfl⟩ (by decide) ⟨Nat.le_of_ble_eq_true rfl, Nat.le_of_ble_eq_true rfl, Nat.le_of_ble_eq_true rfl⟩ (Nat.le_of_ble_eq_true rfl) ⟨full, v3_63, rfl, rfl, R0⟩ (fun r71 t72 pr71 => ?_)
                          obtain ⟨x73, rfl, rfl, br71⟩ := pr71 _ _ rfl
                          show G 101 [some (.inr (.inr (3, 0))), some (.inl full), some (.inl fr), some (.inl v3_63)] [.inl x73] 122 s0
                          refine px_if_eq hG dX5_firstFree_101 (tgt := 106) (by decide) ⟨by omega, by omega⟩ (fun c74 => ?_) (fun c74 => ?_)
                          · refine px_iinc hG dX5_firstFree_106 (Nat.le_of_ble_eq_true rfl) rfl (L2 := [some (.inr (.inr (3, 0))), some (.inl full), some (.inl fr), some (.inl (v3_63 + 1))]) rfl ?_
                            refine px_goto hG dX5_firstFree_109 (tgt := 82) (by decide) ?_
                            exact ih65 (v3_63 + 1) (by omega) (by omega)
                          · refine px_iload_n hG dX5_firstFree_104 rfl ?_
                            exact px_iret (st := []) hG dX5_firstFree_105 rfl rfl (fun full_1 fr_1 ee => by cases ee; exact ⟨_, rfl, rfl, by omega⟩)
                  exact L64 _ 1 (by omega) (Nat.lt_succ_self _)
                · refine px_aload_n hG dX5_firstFree_63 rfl ?_
                  refine px_iload_n hG dX5_firstFree_64 rfl ?_
                  refine px_iload_n hG dX5_firstFree_65 rfl ?_
                  refine jv2 hG dX5_firstFree_66 ct_X5_isFree lk_X5_61 ⟨rfl, rfl⟩ (by decide) ⟨Nat.le_of_ble_eq_true rfl, Nat.le_of_ble_eq_true rfl, Nat.le_of_ble_eq_true rfl⟩ (Nat.le_of_ble_eq_true rfl) ⟨full, v3_56, rfl, rfl, R0⟩ (fun r75 t76 pr75 => ?_)
                  obtain ⟨x77, rfl, rfl, br75⟩ := pr75 _ _ rfl
                  show G 69 [some (.inr (.inr (3, 0))), some (.inl full), some (.inl fr), some (.inl v3_56)] [.inl x77] 122 s0
                  refine px_if_eq hG dX5_firstFree_69 (tgt := 74) (by decide) ⟨by omega, by omega⟩ (fun c78 => ?_) (fun c78 => ?_)
                  · refine px_iinc hG dX5_firstFree_74 (Nat.le_of_ble_eq_true rfl) rfl (L2 := [some (.inr (.inr (3, 0))), some (.inl full), some (.inl fr), some (.inl (v3_56 + 1))]) rfl ?_
                    refine px_goto hG dX5_firstFree_77 (tgt := 55) (by decide) ?_
                    exact ih58 (v3_56 + 1) (by omega) (by omega)
                  · refine px_iload_n hG dX5_firstFree_72 rfl ?_
                    exact px_iret (st := []) hG dX5_firstFree_73 rfl rfl (fun full_1 fr_1 ee => by cases ee; exact ⟨_, rfl, rfl, by omega⟩)
            exact L57 _ fr (by omega) (Nat.lt_succ_self _)
          · refine px_iload_n hG dX5_firstFree_26 rfl ?_
            refine px_iload_n hG dX5_firstFree_27 rfl ?_
            refine px_aload_n hG dX5_firstFree_28 rfl ?_
            refine gi_3_2 hG dX5_firstFree_29 fl_X5_18 R0 (fun x79 ex79 lx79 ux79 => ?_)
            refine px_isub hG dX5_firstFree_32 ?_
            refine px_ic_lt hG dX5_firstFree_33 (tgt := 53) (by decide) ⟨by omega, by omega⟩ ⟨by omega, by omega⟩ (fun c80 => ?_) (fun c80 => ?_)
            · refine px_iload_n hG dX5_firstFree_53 rfl ?_
              refine px_istore_n hG dX5_firstFree_54 (Nat.le_of_ble_eq_true rfl) (L2 := [some (.inr (.inr (3, 0))), some (.inl full), some (.inl fr), some (.inl fr)]) rfl ?_
              have L82 : ∀ (N : Nat) (v3_81 : Int), ((fr ≤ v3_81 ∧ v3_81 ≤ 10000)) → (10001 - v3_81).toNat < N → G 55 [some (.inr (.inr (3, 0))), some (.inl full), some (.inl fr), some (.inl v3_81)] [] 122 s0 := by
                intro N
                induction N with
                | zero => intro v3_81 inv84 hm85; exact absurd hm85 (Nat.not_lt_zero _)
                | succ N ih83 =>
                  intro v3_81 inv84 hm85
                  refine px_iload_n hG dX5_firstFree_55 rfl ?_
                  refine px_aload_n hG dX5_firstFree_56 rfl ?_
                  refine gi_3_1 hG dX5_firstFree_57 fl_X5_15 R0 (fun x86 ex86 lx86 ux86 => ?_)
                  refine px_ic_gt hG dX5_firstFree_60 (tgt := 80) (by decide) ⟨by omega, by omega⟩ ⟨by omega, by omega⟩ (fun c87 => ?_) (fun c87 => ?_)
                  · refine px_iconst hG dX5_firstFree_80 ?_
                    refine px_istore_n hG dX5_firstFree_81 (Nat.le_of_ble_eq_true rfl) (L2 := [some (.inr (.inr (3, 0))), some (.inl full), some (.inl fr), some (.inl 1)]) rfl ?_
                    have L89 : ∀ (N : Nat) (v3_88 : Int), ((1 ≤ v3_88 ∧ v3_88 ≤ 10000)) → (10001 - v3_88).toNat < N → G 82 [some (.inr (.inr (3, 0))), some (.inl full), some (.inl fr), some (.inl v3_88)] [] 122 s0 := by
                      intro N
                      induction N with
                      | zero => intro v3_88 inv91 hm92; exact absurd hm92 (Nat.not_lt_zero _)
                      | succ N ih90 =>
                        intro v3_88 inv91 hm92
                        refine px_aload_n hG dX5_firstFree_82 rfl ?_
                        refine gi_3_0 hG dX5_firstFree_83 fl_X5_9 R0 (fun x93 ex93 lx93 ux93 => ?_)
                        refine px_iconst hG dX5_firstFree_86 ?_
                        refine px_ic_ne hG dX5_firstFree_87 (tgt := 112) (by decide) ⟨by omega, by omega⟩ ⟨by omega, by omega⟩ (fun c94 => ?_) (fun c94 => ?_)
                        · refine px_iconst hG dX5_firstFree_112 ?_
                          exact px_iret (st := []) hG dX5_firstFree_113 rfl rfl (fun full_1 fr_1 ee => by cases ee; exact ⟨_, rfl, rfl, by omega⟩)
                        · refine px_iload_n hG dX5_firstFree_90 rfl ?_
                          refine px_iload_n hG dX5_firstFree_91 rfl ?_
                          refine px_ic_ge hG dX5_firstFree_92 (tgt := 112) (by decide) ⟨by omega, by omega⟩ ⟨by omega, by omega⟩ (fun c95 => ?_) (fun c95 => ?_)
                          · refine px_iconst hG dX5_firstFree_112 ?_
                            exact px_iret (st := []) hG dX5_firstFree_113 rfl rfl (fun full_1 fr_1 ee => by cases ee; exact ⟨_, rfl, rfl, by omega⟩)
                          · refine px_aload_n hG dX5_firstFree_95 rfl ?_
                            refine px_iload_n hG dX5_firstFree_96 rfl ?_
                            refine px_iload_n hG dX5_firstFree_97 rfl ?_
                            refine jv2 hG dX5_firstFree_98 ct_X5_isFree lk_X5_61 ⟨rfl, rfl⟩ (by decide) ⟨Nat.le_of_ble_eq_true rfl, Nat.le_of_ble_eq_true rfl, Nat.le_of_ble_eq_true rfl⟩ (Nat.le_of_ble_eq_true rfl) ⟨full, v3_88, rfl, rfl, R0⟩ (fun r96 t97 pr96 => ?_)
                            obtain ⟨x98, rfl, rfl, br96⟩ := pr96 _ _ rfl
                            show G 101 [some (.inr (.inr (3, 0))), some (.inl full), some (.inl fr), some (.inl v3_88)] [.inl x98] 122 s0
                            refine px_if_eq hG dX5_firstFree_101 (tgt := 106) (by decide) ⟨by omega, by omega⟩ (fun c99 => ?_) (fun c99 => ?_)
                            · refine px_iinc hG dX5_firstFree_106 (Nat.le_of_ble_eq_true rfl) rfl (L2 := [some (.inr (.inr (3, 0))), some (.inl full), some (.inl fr), some (.inl (v3_88 + 1))]) rfl ?_
                              refine px_goto hG dX5_firstFree_109 (tgt := 82) (by decide) ?_
                              exact ih90 (v3_88 + 1) (by omega) (by omega)
                            · refine px_iload_n hG dX5_firstFree_104 rfl ?_
                              exact px_iret (st := []) hG dX5_firstFree_105 rfl rfl (fun full_1 fr_1 ee => by cases ee; exact ⟨_, rfl, rfl, by omega⟩)
                    exact L89 _ 1 (by omega) (Nat.lt_succ_self _)
                  · refine px_aload_n hG dX5_firstFree_63 rfl ?_
                    refine px_iload_n hG dX5_firstFree_64 rfl ?_
                    refine px_iload_n hG dX5_firstFree_65 rfl ?_
                    refine jv2 hG dX5_firstFree_66 ct_X5_isFree lk_X5_61 ⟨rfl, rfl⟩ (by decide) ⟨Nat.le_of_ble_eq_true rfl, Nat.le_of_ble_eq_true rfl, Nat.le_of_ble_eq_true rfl⟩ (Nat.le_of_ble_eq_true rfl) ⟨full, v3_81, rfl, rfl, R0⟩ (fun r100 t101 pr100 => ?_)
                    obtain ⟨x102, rfl, rfl, br100⟩ := pr100 _ _ rfl
                    show G 69 [some (.inr (.inr (3, 0))), some (.inl full), some (.inl fr), some (.inl v3_81)] [.inl x102] 122 s0
                    refine px_if_eq hG dX5_firstFree_69 (tgt := 74) (by decide) ⟨by omega, by omega⟩ (fun c103 => ?_) (fun c103 => ?_)
                    · refine px_iinc hG dX5_firstFree_74 (Nat.le_of_ble_eq_true rfl) rfl (L2 := [some (.inr (.inr (3, 0))), some (.inl full), some (.inl fr), some (.inl (v3_81 + 1))]) rfl ?_
                      refine px_goto hG dX5_firstFree_77 (tgt := 55) (by decide) ?_
                      exact ih83 (v3_81 + 1) (by omega) (by omega)
                    · refine px_iload_n hG dX5_firstFree_72 rfl ?_
                      exact px_iret (st := []) hG dX5_firstFree_73 rfl rfl (fun full_1 fr_1 ee => by cases ee; exact ⟨_, rfl, rfl, by omega⟩)
              exact L82 _ fr (by omega) (Nat.lt_succ_self _)
            · refine px_aload_n hG dX5_firstFree_36 rfl ?_
              refine px_iload_n hG dX5_firstFree_37 rfl ?_
              refine px_iload_n hG dX5_firstFree_38 rfl ?_
              refine jv2 hG dX5_firstFree_39 ct_X5_isFree lk_X5_61 ⟨rfl, rfl⟩ (by decide) ⟨Nat.le_of_ble_eq_true rfl, Nat.le_of_ble_eq_true rfl, Nat.le_of_ble_eq_true rfl⟩ (Nat.le_of_ble_eq_true rfl) ⟨full, v3_51, rfl, rfl, R0⟩ (fun r104 t105 pr104 => ?_)
              obtain ⟨x106, rfl, rfl, br104⟩ := pr104 _ _ rfl
              show G 42 [some (.inr (.inr (3, 0))), some (.inl full), some (.inl fr), some (.inl v3_51)] [.inl x106] 122 s0
              refine px_if_eq hG dX5_firstFree_42 (tgt := 47) (by decide) ⟨by omega, by omega⟩ (fun c107 => ?_) (fun c107 => ?_)
              · refine px_iinc hG dX5_firstFree_47 (Nat.le_of_ble_eq_true rfl) rfl (L2 := [some (.inr (.inr (3, 0))), some (.inl full), some (.inl fr), some (.inl (v3_51 + -1))]) rfl ?_
                refine px_goto hG dX5_firstFree_50 (tgt := 21) (by decide) ?_
                exact ih52 (v3_51 + -1) (by omega) (by omega)
              · refine px_iload_n hG dX5_firstFree_45 rfl ?_
                exact px_iret (st := []) hG dX5_firstFree_46 rfl rfl (fun full_1 fr_1 ee => by cases ee; exact ⟨_, rfl, rfl, by omega⟩)
      exact L21 _ (fr - 1) (by omega) (Nat.lt_succ_self _))
def pre_X5_bodyAt (as : List pm_V) (n : Nat) (σ : pm_H) : Prop := ∃ full pl sz : Int, as = [.inr (.inr (3, 0)), .inl full, .inl pl, .inl sz] ∧ n = 122 ∧ pm_Rng σ ∧ (0 ≤ pl ∧ pl ≤ 10 ∧ 0 ≤ sz ∧ sz ≤ 4)
def po_X5_bodyAt (as : List pm_V) (_ : Nat) (σ : pm_H) (r : Option pm_V) (τ : pm_H) : Prop := ∀ full pl sz : Int, as = [.inr (.inr (3, 0)), .inl full, .inl pl, .inl sz] → ∃ v : Int, r = some (.inl v) ∧ σ = τ ∧ (0 ≤ v ∧ v ≤ 1023)
set_option maxRecDepth 20000 in
set_option maxHeartbeats 4000000 in
theorem ct_X5_bodyAt : pm_Ct yX5_bodyAt cX5_bodyAt 7 (some .int) 1 0 pre_X5_bodyAt po_X5_bodyAt := pm_sound (ini := false) (by decide +kernel) pk_X5_bodyAt (fun h => absurd h (by decide)) (by
  rintro as n s0 ⟨full, pl, sz, rfl, rfl, R0, hpre⟩
  refine ⟨by decide, Nat.le_of_ble_eq_true rfl, fun G hG => ?_⟩
  have hG : pm_Rules (RX5, 1, 122, cX5_bodyAt, -1, (fun _ => 0), false, (some .int), po_X5_bodyAt [.inr (.inr (3, 0)), .inl full, .inl pl, .inl sz] 122 s0) G := hG
  show G 0 [some (.inr (.inr (3, 0))), some (.inl full), some (.inl pl), some (.inl sz), none, none, none] [] 122 s0
  refine px_iload_n hG dX5_bodyAt_0 rfl ?_
  refine px_if_eq hG dX5_bodyAt_1 (tgt := 12) (by decide) ⟨by omega, by omega⟩ (fun c1 => ?_) (fun c1 => ?_)
  · refine px_iconst hG dX5_bodyAt_12 ?_
    exact px_iret (st := []) hG dX5_bodyAt_13 rfl rfl (fun full_1 pl_1 sz_1 ee => by cases ee; exact ⟨_, rfl, rfl, by omega⟩)
  · refine px_iload_n hG dX5_bodyAt_4 rfl ?_
    refine px_aload_n hG dX5_bodyAt_5 rfl ?_
    refine gi_3_1 hG dX5_bodyAt_6 fl_X5_15 R0 (fun x2 ex2 lx2 ux2 => ?_)
    refine px_ic_le hG dX5_bodyAt_9 (tgt := 14) (by decide) ⟨by omega, by omega⟩ ⟨by omega, by omega⟩ (fun c3 => ?_) (fun c3 => ?_)
    · refine px_iconst hG dX5_bodyAt_14 ?_
      refine px_istore hG dX5_bodyAt_15 (Nat.le_of_ble_eq_true rfl) (L2 := [some (.inr (.inr (3, 0))), some (.inl full), some (.inl pl), some (.inl sz), some (.inl 0), none, none]) rfl ?_
      refine px_iload_n hG dX5_bodyAt_17 rfl ?_
      refine px_istore hG dX5_bodyAt_18 (Nat.le_of_ble_eq_true rfl) (L2 := [some (.inr (.inr (3, 0))), some (.inl full), some (.inl pl), some (.inl sz), some (.inl 0), some (.inl pl), none]) rfl ?_
      have L20 : ∀ (N : Nat) (v4_4 : Int) (v5_5 : Int), ((pl ≤ v5_5 ∧ v5_5 ≤ 10000) ∧ (0 ≤ v4_4 ∧ v4_4 ≤ 1023)) → (10001 - v5_5).toNat < N → G 20 [some (.inr (.inr (3, 0))), some (.inl full), some (.inl pl), some (.inl sz), some (.inl v4_4), some (.inl v5_5), none] [] 122 s0 := by
        intro N
        induction N with
        | zero => intro v4_4 v5_5 inv7 hm8; exact absurd hm8 (Nat.not_lt_zero _)
        | succ N ih6 =>
          intro v4_4 v5_5 inv7 hm8
          refine px_iload hG dX5_bodyAt_20 rfl ?_
          refine px_iload_n hG dX5_bodyAt_22 rfl ?_
          refine px_iload_n hG dX5_bodyAt_23 rfl ?_
          refine px_iadd hG dX5_bodyAt_24 ?_
          refine px_ic_ge hG dX5_bodyAt_25 (tgt := 99) (by decide) ⟨by omega, by omega⟩ ⟨by omega, by omega⟩ (fun c9 => ?_) (fun c9 => ?_)
          · refine px_iload hG dX5_bodyAt_99 rfl ?_
            exact px_iret (st := []) hG dX5_bodyAt_101 rfl rfl (fun full_1 pl_1 sz_1 ee => by cases ee; exact ⟨_, rfl, rfl, by omega⟩)
          · refine px_iload hG dX5_bodyAt_28 rfl ?_
            refine px_aload_n hG dX5_bodyAt_30 rfl ?_
            refine gi_3_1 hG dX5_bodyAt_31 fl_X5_15 R0 (fun x10 ex10 lx10 ux10 => ?_)
            refine px_ic_le hG dX5_bodyAt_34 (tgt := 47) (by decide) ⟨by omega, by omega⟩ ⟨by omega, by omega⟩ (fun c11 => ?_) (fun c11 => ?_)
            · refine px_iload hG dX5_bodyAt_47 rfl ?_
              refine px_aload_n hG dX5_bodyAt_49 rfl ?_
              refine gi_3_1 hG dX5_bodyAt_50 fl_X5_15 R0 (fun x12 ex12 lx12 ux12 => ?_)
              have J68_15 : ∀ (j14 : Int), (1 ≤ j14 ∧ j14 ≤ 10) → G 68 [some (.inr (.inr (3, 0))), some (.inl full), some (.inl pl), some (.inl sz), some (.inl v4_4), some (.inl v5_5), none] [.inl j14] 122 s0 := by
                intro j14 inv16
                refine px_istore hG dX5_bodyAt_68 (Nat.le_of_ble_eq_true rfl) (L2 := [some (.inr (.inr (3, 0))), some (.inl full), some (.inl pl), some (.inl sz), some (.inl v4_4), some (.inl v5_5), some (.inl j14)]) rfl ?_
                refine px_aload_n hG dX5_bodyAt_70 rfl ?_
                refine px_iload_n hG dX5_bodyAt_71 rfl ?_
                refine px_iload hG dX5_bodyAt_72 rfl ?_
                refine jv2 hG dX5_bodyAt_74 ct_X5_isFree lk_X5_61 ⟨rfl, rfl⟩ (by decide) ⟨Nat.le_of_ble_eq_true rfl, Nat.le_of_ble_eq_true rfl, Nat.le_of_ble_eq_true rfl⟩ (Nat.le_of_ble_eq_true rfl) ⟨full, j14, rfl, rfl, R0⟩ (fun r17 t18 pr17 => ?_)
                obtain ⟨x19, rfl, rfl, br17⟩ := pr17 _ _ rfl
                show G 77 [some (.inr (.inr (3, 0))), some (.inl full), some (.inl pl), some (.inl sz), some (.inl v4_4), some (.inl v5_5), some (.inl j14)] [.inl x19] 122 s0
                refine px_if_ne hG dX5_bodyAt_77 (tgt := 82) (by decide) ⟨by omega, by omega⟩ (fun c20 => ?_) (fun c20 => ?_)
                · refine px_iload hG dX5_bodyAt_82 rfl ?_
                  refine px_iconst hG dX5_bodyAt_84 ?_
                  refine px_iload hG dX5_bodyAt_85 rfl ?_
                  refine px_iconst hG dX5_bodyAt_87 ?_
                  refine px_isub hG dX5_bodyAt_88 ?_
                  refine px_ishl hG dX5_bodyAt_89 ?_
                  generalize hx21 : pm_ishl 1 (j14 - 1) = x21
                  have bx21 := pm_shl1b (by omega) hx21
                  refine px_ior hG dX5_bodyAt_90 ?_
                  generalize hx22 : pm_ior v4_4 x21 = x22
                  have bx22 := pm_or10 (by omega) (by omega) hx22
                  refine px_istore hG dX5_bodyAt_91 (Nat.le_of_ble_eq_true rfl) (L2 := [some (.inr (.inr (3, 0))), some (.inl full), some (.inl pl), some (.inl sz), some (.inl x22), some (.inl v5_5), some (.inl j14)]) rfl ?_
                  refine px_iinc hG dX5_bodyAt_93 (Nat.le_of_ble_eq_true rfl) rfl (L2 := [some (.inr (.inr (3, 0))), some (.inl full), some (.inl pl), some (.inl sz), some (.inl x22), some (.inl (v5_5 + 1)), some (.inl j14)]) rfl ?_
                  refine px_goto hG dX5_bodyAt_96 (tgt := 20) (by decide) ?_
                  refine px_weak hG (L2 := [some (.inr (.inr (3, 0))), some (.inl full), some (.inl pl), some (.inl sz), some (.inl x22), some (.inl (v5_5 + 1)), none]) ⟨Or.inr rfl, Or.inr rfl, Or.inr rfl, Or.inr rfl, Or.inr rfl, Or.inr rfl, Or.inl rfl, trivial⟩ ?_
                  exact ih6 x22 (v5_5 + 1) (⟨by omega, by omega⟩) (by omega)
                · refine px_iconst hG dX5_bodyAt_80 ?_
                  exact px_iret (st := []) hG dX5_bodyAt_81 rfl rfl (fun full_1 pl_1 sz_1 ee => by cases ee; exact ⟨_, rfl, rfl, by omega⟩)
              refine px_ic_le hG dX5_bodyAt_53 (tgt := 66) (by decide) ⟨by omega, by omega⟩ ⟨by omega, by omega⟩ (fun c13 => ?_) (fun c13 => ?_)
              · refine px_iload hG dX5_bodyAt_66 rfl ?_
                exact J68_15 v5_5 (by omega)
              · refine px_iload hG dX5_bodyAt_56 rfl ?_
                refine px_aload_n hG dX5_bodyAt_58 rfl ?_
                refine gi_3_1 hG dX5_bodyAt_59 fl_X5_15 R0 (fun x23 ex23 lx23 ux23 => ?_)
                refine px_isub hG dX5_bodyAt_62 ?_
                refine px_goto hG dX5_bodyAt_63 (tgt := 68) (by decide) ?_
                exact J68_15 (v5_5 - x23) (by omega)
            · refine px_aload_n hG dX5_bodyAt_37 rfl ?_
              refine gi_3_0 hG dX5_bodyAt_38 fl_X5_9 R0 (fun x24 ex24 lx24 ux24 => ?_)
              refine px_iconst hG dX5_bodyAt_41 ?_
              refine px_ic_eq hG dX5_bodyAt_42 (tgt := 47) (by decide) ⟨by omega, by omega⟩ ⟨by omega, by omega⟩ (fun c25 => ?_) (fun c25 => ?_)
              · refine px_iload hG dX5_bodyAt_47 rfl ?_
                refine px_aload_n hG dX5_bodyAt_49 rfl ?_
                refine gi_3_1 hG dX5_bodyAt_50 fl_X5_15 R0 (fun x26 ex26 lx26 ux26 => ?_)
                have J68_29 : ∀ (j28 : Int), (1 ≤ j28 ∧ j28 ≤ 10) → G 68 [some (.inr (.inr (3, 0))), some (.inl full), some (.inl pl), some (.inl sz), some (.inl v4_4), some (.inl v5_5), none] [.inl j28] 122 s0 := by
                  intro j28 inv30
                  refine px_istore hG dX5_bodyAt_68 (Nat.le_of_ble_eq_true rfl) (L2 := [some (.inr (.inr (3, 0))), some (.inl full), some (.inl pl), some (.inl sz), some (.inl v4_4), some (.inl v5_5), some (.inl j28)]) rfl ?_
                  refine px_aload_n hG dX5_bodyAt_70 rfl ?_
                  refine px_iload_n hG dX5_bodyAt_71 rfl ?_
                  refine px_iload hG dX5_bodyAt_72 rfl ?_
                  refine jv2 hG dX5_bodyAt_74 ct_X5_isFree lk_X5_61 ⟨rfl, rfl⟩ (by decide) ⟨Nat.le_of_ble_eq_true rfl, Nat.le_of_ble_eq_true rfl, Nat.le_of_ble_eq_true rfl⟩ (Nat.le_of_ble_eq_true rfl) ⟨full, j28, rfl, rfl, R0⟩ (fun r31 t32 pr31 => ?_)
                  obtain ⟨x33, rfl, rfl, br31⟩ := pr31 _ _ rfl
                  show G 77 [some (.inr (.inr (3, 0))), some (.inl full), some (.inl pl), some (.inl sz), some (.inl v4_4), some (.inl v5_5), some (.inl j28)] [.inl x33] 122 s0
                  refine px_if_ne hG dX5_bodyAt_77 (tgt := 82) (by decide) ⟨by omega, by omega⟩ (fun c34 => ?_) (fun c34 => ?_)
                  · refine px_iload hG dX5_bodyAt_82 rfl ?_
                    refine px_iconst hG dX5_bodyAt_84 ?_
                    refine px_iload hG dX5_bodyAt_85 rfl ?_
                    refine px_iconst hG dX5_bodyAt_87 ?_
                    refine px_isub hG dX5_bodyAt_88 ?_
                    refine px_ishl hG dX5_bodyAt_89 ?_
                    generalize hx35 : pm_ishl 1 (j28 - 1) = x35
                    have bx35 := pm_shl1b (by omega) hx35
                    refine px_ior hG dX5_bodyAt_90 ?_
                    generalize hx36 : pm_ior v4_4 x35 = x36
                    have bx36 := pm_or10 (by omega) (by omega) hx36
                    refine px_istore hG dX5_bodyAt_91 (Nat.le_of_ble_eq_true rfl) (L2 := [some (.inr (.inr (3, 0))), some (.inl full), some (.inl pl), some (.inl sz), some (.inl x36), some (.inl v5_5), some (.inl j28)]) rfl ?_
                    refine px_iinc hG dX5_bodyAt_93 (Nat.le_of_ble_eq_true rfl) rfl (L2 := [some (.inr (.inr (3, 0))), some (.inl full), some (.inl pl), some (.inl sz), some (.inl x36), some (.inl (v5_5 + 1)), some (.inl j28)]) rfl ?_
                    refine px_goto hG dX5_bodyAt_96 (tgt := 20) (by decide) ?_
                    refine px_weak hG (L2 := [some (.inr (.inr (3, 0))), some (.inl full), some (.inl pl), some (.inl sz), some (.inl x36), some (.inl (v5_5 + 1)), none]) ⟨Or.inr rfl, Or.inr rfl, Or.inr rfl, Or.inr rfl, Or.inr rfl, Or.inr rfl, Or.inl rfl, trivial⟩ ?_
                    exact ih6 x36 (v5_5 + 1) (⟨by omega, by omega⟩) (by omega)
                  · refine px_iconst hG dX5_bodyAt_80 ?_
                    exact px_iret (st := []) hG dX5_bodyAt_81 rfl rfl (fun full_1 pl_1 sz_1 ee => by cases ee; exact ⟨_, rfl, rfl, by omega⟩)
                refine px_ic_le hG dX5_bodyAt_53 (tgt := 66) (by decide) ⟨by omega, by omega⟩ ⟨by omega, by omega⟩ (fun c27 => ?_) (fun c27 => ?_)
                · refine px_iload hG dX5_bodyAt_66 rfl ?_
                  exact J68_29 v5_5 (by omega)
                · refine px_iload hG dX5_bodyAt_56 rfl ?_
                  refine px_aload_n hG dX5_bodyAt_58 rfl ?_
                  refine gi_3_1 hG dX5_bodyAt_59 fl_X5_15 R0 (fun x37 ex37 lx37 ux37 => ?_)
                  refine px_isub hG dX5_bodyAt_62 ?_
                  refine px_goto hG dX5_bodyAt_63 (tgt := 68) (by decide) ?_
                  exact J68_29 (v5_5 - x37) (by omega)
              · refine px_iconst hG dX5_bodyAt_45 ?_
                exact px_iret (st := []) hG dX5_bodyAt_46 rfl rfl (fun full_1 pl_1 sz_1 ee => by cases ee; exact ⟨_, rfl, rfl, by omega⟩)
      exact L20 _ 0 pl (⟨by omega, by omega⟩) (Nat.lt_succ_self _)
    · refine px_iconst hG dX5_bodyAt_12 ?_
      exact px_iret (st := []) hG dX5_bodyAt_13 rfl rfl (fun full_1 pl_1 sz_1 ee => by cases ee; exact ⟨_, rfl, rfl, by omega⟩))
def pre_X5_settle (as : List pm_V) (n : Nat) (σ : pm_H) : Prop := as = [.inr (.inr (3, 0))] ∧ n = 122 ∧ pm_Rng σ ∧ ((σ 3 0 0 = 2 → 0 ≤ σ 3 0 2 ∧ σ 3 0 2 ≤ 9))
def po_X5_settle (as : List pm_V) (_ : Nat) (σ : pm_H) (r : Option pm_V) (τ : pm_H) : Prop := as = [.inr (.inr (3, 0))] → r = none ∧ pm_Rng τ ∧ pm_Fr [(3, some 4), (6, none), (7, none)] σ τ
set_option maxRecDepth 20000 in
set_option maxHeartbeats 4000000 in
theorem ct_X5_settle : pm_Ct yX5_settle cX5_settle 3 none 2 0 pre_X5_settle po_X5_settle := pm_sound (ini := false) (by decide +kernel) pk_X5_settle (fun h => absurd h (by decide)) (by
  rintro as n s0 ⟨rfl, rfl, R0, hpre⟩
  refine ⟨by decide, Nat.le_of_ble_eq_true rfl, fun G hG => ?_⟩
  have hG : pm_Rules (RX5, 2, 122, cX5_settle, -1, (fun _ => 0), false, none, po_X5_settle [.inr (.inr (3, 0))] 122 s0) G := hG
  show G 0 [some (.inr (.inr (3, 0))), none, none] [] 122 s0
  refine px_aload_n hG dX5_settle_0 rfl ?_
  refine px_iconst hG dX5_settle_1 ?_
  refine pi_3_4 hG dX5_settle_2 fl_X5_24 R0 (by omega) (fun s1 qs1 Rs1 => ?_)
  have Fs1 := pm_Fr_up ((pm_Fr_rf : pm_Fr [(3, some 4), (6, none), (7, none)] s0 s0)) qs1 (M := [(3, some 4), (6, none), (7, none)]) rfl
  have k2 : s1 3 0 4 = 0 := pm_at qs1
  refine px_iconst hG dX5_settle_5 ?_
  refine px_istore_n hG dX5_settle_6 (Nat.le_of_ble_eq_true rfl) (L2 := [some (.inr (.inr (3, 0))), some (.inl 1), none]) rfl ?_
  have L7 : ∀ (N : Nat) (v1_3 : Int) (s4 : pm_H), pm_Rng s4 → pm_Fr [(3, some 4), (6, none), (7, none)] s0 s4 → ((1 ≤ v1_3 ∧ v1_3 ≤ 10000)) → (10001 - v1_3).toNat < N → G 7 [some (.inr (.inr (3, 0))), some (.inl v1_3), none] [] 122 s4 := by
    intro N
    induction N with
    | zero => intro v1_3 s4 R5 F6 inv8 hm9; exact absurd hm9 (Nat.not_lt_zero _)
    | succ N ih7 =>
      intro v1_3 s4 R5 F6 inv8 hm9
      refine px_iload_n hG dX5_settle_7 rfl ?_
      refine px_aload_n hG dX5_settle_8 rfl ?_
      refine gi_3_3 hG dX5_settle_9 fl_X5_21 R5 (fun x10 ex10 lx10 ux10 => ?_)
      have ex10 : s0 3 0 3 = x10 := (F6 3 0 3 rfl).symm.trans ex10
      refine px_ic_gt hG dX5_settle_12 (tgt := 92) (by decide) ⟨by omega, by omega⟩ ⟨by omega, by omega⟩ (fun c11 => ?_) (fun c11 => ?_)
      · exact px_vret (st := []) hG dX5_settle_92 rfl rfl (fun _ => by exact ⟨rfl, R5, F6⟩)
      · refine px_aload_n hG dX5_settle_15 rfl ?_
        refine px_aload_n hG dX5_settle_16 rfl ?_
        refine gi_3_4 hG dX5_settle_17 fl_X5_24 R5 (fun x12 ex12 lx12 ux12 => ?_)
        refine px_aload_n hG dX5_settle_20 rfl ?_
        refine gr_3_5 hG dX5_settle_21 fl_X5_27 R5 ?_
        refine px_iload_n hG dX5_settle_24 rfl ?_
        refine al_4 hG dX5_settle_25 R5 (by omega) (fun x13 ex13 lx13 ux13 => ?_)
        refine jv2 hG dX5_settle_26 ct_X5_firstFree lk_X5_53 ⟨rfl, rfl⟩ (by decide) ⟨Nat.le_of_ble_eq_true rfl, Nat.le_of_ble_eq_true rfl, Nat.le_of_ble_eq_true rfl⟩ (Nat.le_of_ble_eq_true rfl) ⟨x12, x13, rfl, rfl, R5, ⟨by omega, by omega, by rw [F6 3 0 0 rfl, F6 3 0 2 rfl]; exact hpre⟩⟩ (fun r14 t15 pr14 => ?_)
        obtain ⟨x16, rfl, rfl, br14⟩ := pr14 _ _ rfl
        show G 29 [some (.inr (.inr (3, 0))), some (.inl v1_3), none] [.inl x16] 122 s4
        refine px_istore_n hG dX5_settle_29 (Nat.le_of_ble_eq_true rfl) (L2 := [some (.inr (.inr (3, 0))), some (.inl v1_3), some (.inl x16)]) rfl ?_
        refine px_aload_n hG dX5_settle_30 rfl ?_
        refine gr_3_8 hG dX5_settle_31 fl_X5_37 R5 ?_
        refine px_iload_n hG dX5_settle_34 rfl ?_
        refine px_aload_n hG dX5_settle_35 rfl ?_
        refine px_aload_n hG dX5_settle_36 rfl ?_
        refine gi_3_4 hG dX5_settle_37 fl_X5_24 R5 (fun x17 ex17 lx17 ux17 => ?_)
        refine px_iload_n hG dX5_settle_40 rfl ?_
        refine px_aload_n hG dX5_settle_41 rfl ?_
        refine gr_3_6 hG dX5_settle_42 fl_X5_31 R5 ?_
        refine px_iload_n hG dX5_settle_45 rfl ?_
        refine al_5 hG dX5_settle_46 R5 (by omega) (fun x18 ex18 lx18 ux18 => ?_)
        refine jv3 hG dX5_settle_47 ct_X5_bodyAt lk_X5_57 ⟨rfl, rfl⟩ (by decide) ⟨Nat.le_of_ble_eq_true rfl, Nat.le_of_ble_eq_true rfl, Nat.le_of_ble_eq_true rfl⟩ (Nat.le_of_ble_eq_true rfl) ⟨x17, x16, x18, rfl, rfl, R5, by omega⟩ (fun r19 t20 pr19 => ?_)
        obtain ⟨x21, rfl, rfl, br19⟩ := pr19 _ _ _ rfl
        show G 50 [some (.inr (.inr (3, 0))), some (.inl v1_3), some (.inl x16)] [.inl x21, .inl v1_3, .inr (.inr (7, 0))] 122 s4
        refine as_7 hG dX5_settle_50 R5 (by omega) (by omega) (fun s22 qs22 Rs22 => ?_)
        have Fs22 := pm_Fr_up (F6) qs22 (M := [(3, some 4), (6, none), (7, none)]) rfl
        have k23 : s22 3 0 4 = x12 := (pm_nec qs22 (by decide)).trans ex12
        refine px_aload_n hG dX5_settle_51 rfl ?_
        refine gr_3_7 hG dX5_settle_52 fl_X5_34 Rs22 ?_
        refine px_iload_n hG dX5_settle_55 rfl ?_
        refine px_aload_n hG dX5_settle_56 rfl ?_
        refine gr_3_8 hG dX5_settle_57 fl_X5_37 Rs22 ?_
        refine px_iload_n hG dX5_settle_60 rfl ?_
        refine al_7 hG dX5_settle_61 Rs22 (by omega) (fun x24 ex24 lx24 ux24 => ?_)
        have J70_27 : ∀ (j26 : Int), ((x24 ≠ 0 ∧ j26 = x16) ∨ (¬ (x24 ≠ 0) ∧ j26 = 0)) → G 70 [some (.inr (.inr (3, 0))), some (.inl v1_3), none] [.inl j26, .inl v1_3, .inr (.inr (6, 0))] 122 s22 := by
          intro j26 inv28
          refine as_6 hG dX5_settle_70 Rs22 (by omega) (by omega) (fun s29 qs29 Rs29 => ?_)
          have Fs29 := pm_Fr_up (Fs22) qs29 (M := [(3, some 4), (6, none), (7, none)]) rfl
          have k30 : s29 3 0 4 = x12 := (pm_nec qs29 (by decide)).trans k23
          refine px_aload_n hG dX5_settle_71 rfl ?_
          refine px_dupa hG dX5_settle_72 ?_
          refine gi_3_4 hG dX5_settle_73 fl_X5_24 Rs29 (fun x31 ex31 lx31 ux31 => ?_)
          refine px_aload_n hG dX5_settle_76 rfl ?_
          refine gr_3_8 hG dX5_settle_77 fl_X5_37 Rs29 ?_
          refine px_iload_n hG dX5_settle_80 rfl ?_
          refine al_7 hG dX5_settle_81 Rs29 (by omega) (fun x32 ex32 lx32 ux32 => ?_)
          refine px_ior hG dX5_settle_82 ?_
          generalize hx33 : pm_ior x31 x32 = x33
          have bx33 := pm_or10 (by omega) (by omega) hx33
          refine pi_3_4 hG dX5_settle_83 fl_X5_24 Rs29 (by omega) (fun s34 qs34 Rs34 => ?_)
          have Fs34 := pm_Fr_up (Fs29) qs34 (M := [(3, some 4), (6, none), (7, none)]) rfl
          have k35 : s34 3 0 4 = x33 := pm_at qs34
          refine px_iinc hG dX5_settle_86 (Nat.le_of_ble_eq_true rfl) rfl (L2 := [some (.inr (.inr (3, 0))), some (.inl (v1_3 + 1)), none]) rfl ?_
          refine px_goto hG dX5_settle_89 (tgt := 7) (by decide) ?_
          exact ih7 (v1_3 + 1) s34 Rs34 Fs34 (by omega) (by omega)
        refine px_if_ne hG dX5_settle_62 (tgt := 69) (by decide) ⟨by omega, by omega⟩ (fun c25 => ?_) (fun c25 => ?_)
        · refine px_iload_n hG dX5_settle_69 rfl ?_
          refine px_weak hG (L2 := [some (.inr (.inr (3, 0))), some (.inl v1_3), none]) ⟨Or.inr rfl, Or.inr rfl, Or.inl rfl, trivial⟩ ?_
          exact J70_27 x16 (by omega)
        · refine px_iconst hG dX5_settle_65 ?_
          refine px_goto hG dX5_settle_66 (tgt := 70) (by decide) ?_
          refine px_weak hG (L2 := [some (.inr (.inr (3, 0))), some (.inl v1_3), none]) ⟨Or.inr rfl, Or.inr rfl, Or.inl rfl, trivial⟩ ?_
          exact J70_27 0 (by omega)
  exact L7 _ 1 s1 Rs1 Fs1 (by omega) (Nat.lt_succ_self _))
def pre_X5_add (as : List pm_V) (n : Nat) (σ : pm_H) : Prop := ∃ w : Int, as = [.inr (.inr (3, 0)), .inl w] ∧ n = 122 ∧ pm_Rng σ ∧ (0 ≤ w ∧ w ≤ 10 ∧ σ 3 0 3 ≤ 9)
def po_X5_add (as : List pm_V) (_ : Nat) (σ : pm_H) (r : Option pm_V) (τ : pm_H) : Prop := ∀ w : Int, as = [.inr (.inr (3, 0)), .inl w] → r = none ∧ pm_Rng τ ∧ pm_Fr [(3, some 3), (4, none), (5, none)] σ τ ∧ (τ 3 0 3 = σ 3 0 3 + 1)
set_option maxRecDepth 20000 in
set_option maxHeartbeats 4000000 in
theorem ct_X5_add : pm_Ct yX5_add cX5_add 2 none 0 0 pre_X5_add po_X5_add := pm_sound (ini := false) (by decide +kernel) pk_X5_add (fun h => absurd h (by decide)) (by
  rintro as n s0 ⟨w, rfl, rfl, R0, hpre⟩
  refine ⟨by decide, Nat.le_of_ble_eq_true rfl, fun G hG => ?_⟩
  have hG : pm_Rules (RX5, 0, 122, cX5_add, -1, (fun _ => 0), false, none, po_X5_add [.inr (.inr (3, 0)), .inl w] 122 s0) G := hG
  show G 0 [some (.inr (.inr (3, 0))), some (.inl w)] [] 122 s0
  refine px_aload_n hG dX5_add_0 rfl ?_
  refine px_dupa hG dX5_add_1 ?_
  refine gi_3_3 hG dX5_add_2 fl_X5_21 R0 (fun x1 ex1 lx1 ux1 => ?_)
  refine px_iconst hG dX5_add_5 ?_
  refine px_iadd hG dX5_add_6 ?_
  refine pi_3_3 hG dX5_add_7 fl_X5_21 R0 (by omega) (fun s2 qs2 Rs2 => ?_)
  have Fs2 := pm_Fr_up ((pm_Fr_rf : pm_Fr [(3, some 3), (4, none), (5, none)] s0 s0)) qs2 (M := [(3, some 3), (4, none), (5, none)]) rfl
  have k3 : s2 3 0 3 = x1 + 1 := pm_at qs2
  refine px_aload_n hG dX5_add_10 rfl ?_
  refine gr_3_5 hG dX5_add_11 fl_X5_27 Rs2 ?_
  refine px_aload_n hG dX5_add_14 rfl ?_
  refine gi_3_3 hG dX5_add_15 fl_X5_21 Rs2 (fun x4 ex4 lx4 ux4 => ?_)
  refine px_iload_n hG dX5_add_18 rfl ?_
  refine as_4 hG dX5_add_19 Rs2 (by omega) (by omega) (fun s5 qs5 Rs5 => ?_)
  have Fs5 := pm_Fr_up (Fs2) qs5 (M := [(3, some 3), (4, none), (5, none)]) rfl
  have k6 : s5 3 0 3 = x1 + 1 := (pm_nec qs5 (by decide)).trans k3
  refine px_aload_n hG dX5_add_20 rfl ?_
  refine gr_3_6 hG dX5_add_21 fl_X5_31 Rs5 ?_
  refine px_aload_n hG dX5_add_24 rfl ?_
  refine gi_3_3 hG dX5_add_25 fl_X5_21 Rs5 (fun x7 ex7 lx7 ux7 => ?_)
  refine px_iconst hG dX5_add_28 ?_
  refine as_5 hG dX5_add_29 Rs5 (by omega) (by omega) (fun s8 qs8 Rs8 => ?_)
  have Fs8 := pm_Fr_up (Fs5) qs8 (M := [(3, some 3), (4, none), (5, none)]) rfl
  have k9 : s8 3 0 3 = x1 + 1 := (pm_nec qs8 (by decide)).trans k6
  exact px_vret (st := []) hG dX5_add_30 rfl rfl (fun w_1 ee => by cases ee; exact ⟨rfl, Rs8, Fs8, by omega⟩))
def pre_X5_leaveOnly (as : List pm_V) (n : Nat) (σ : pm_H) : Prop := ∃ left : Int, as = [.inr (.inr (3, 0)), .inl left] ∧ n = 122 ∧ pm_Rng σ ∧ (0 ≤ left ∧ left ≤ 10 ∧ (σ 3 0 0 = 2 → 0 ≤ σ 3 0 2 ∧ σ 3 0 2 ≤ 9))
def po_X5_leaveOnly (as : List pm_V) (_ : Nat) (σ : pm_H) (r : Option pm_V) (τ : pm_H) : Prop := ∀ left : Int, as = [.inr (.inr (3, 0)), .inl left] → r = none ∧ pm_Rng τ ∧ pm_Fr [(3, some 3), (3, some 4), (6, none), (7, none)] σ τ ∧ (τ 3 0 3 = left)
set_option maxRecDepth 20000 in
set_option maxHeartbeats 4000000 in
theorem ct_X5_leaveOnly : pm_Ct yX5_leaveOnly cX5_leaveOnly 2 none 3 0 pre_X5_leaveOnly po_X5_leaveOnly := pm_sound (ini := false) (by decide +kernel) pk_X5_leaveOnly (fun h => absurd h (by decide)) (by
  rintro as n s0 ⟨left, rfl, rfl, R0, hpre⟩
  refine ⟨by decide, Nat.le_of_ble_eq_true rfl, fun G hG => ?_⟩
  have hG : pm_Rules (RX5, 3, 122, cX5_leaveOnly, -1, (fun _ => 0), false, none, po_X5_leaveOnly [.inr (.inr (3, 0)), .inl left] 122 s0) G := hG
  show G 0 [some (.inr (.inr (3, 0))), some (.inl left)] [] 122 s0
  refine px_aload_n hG dX5_leaveOnly_0 rfl ?_
  refine px_iload_n hG dX5_leaveOnly_1 rfl ?_
  refine pi_3_3 hG dX5_leaveOnly_2 fl_X5_21 R0 (by omega) (fun s1 qs1 Rs1 => ?_)
  have Fs1 := pm_Fr_up ((pm_Fr_rf : pm_Fr [(3, some 3), (3, some 4), (6, none), (7, none)] s0 s0)) qs1 (M := [(3, some 3), (3, some 4), (6, none), (7, none)]) rfl
  have k2 : s1 3 0 3 = left := pm_at qs1
  refine px_aload_n hG dX5_leaveOnly_5 rfl ?_
  refine jv0 hG dX5_leaveOnly_6 ct_X5_settle lk_X5_47 ⟨rfl, rfl⟩ (by decide) ⟨Nat.le_of_ble_eq_true rfl, Nat.le_of_ble_eq_true rfl, Nat.le_of_ble_eq_true rfl⟩ (Nat.le_of_ble_eq_true rfl) ⟨rfl, rfl, Rs1, by rw [Fs1 3 0 0 rfl, Fs1 3 0 2 rfl]; exact hpre.2.2⟩ (fun r3 t5 pr3 => ?_)
  obtain ⟨rfl, Rt5, Ft5⟩ := pr3 rfl
  have Ff7 := pm_Fr_tr Fs1 Ft5 (M := [(3, some 3), (3, some 4), (6, none), (7, none)]) rfl
  have k8 : t5 3 0 3 = left := (Ft5 3 0 3 rfl).trans k2
  show G 9 [some (.inr (.inr (3, 0))), some (.inl left)] [] 122 t5
  exact px_vret (st := []) hG dX5_leaveOnly_9 rfl rfl (fun left_1 ee => by cases ee; exact ⟨rfl, Rt5, Ff7, by omega⟩))
def pre_X5_lay (as : List pm_V) (n : Nat) (σ : pm_H) : Prop := ∃ kd n1 b1 : Int, as = [.inr (.inr (3, 0)), .inl kd, .inl n1, .inl b1] ∧ n = 122 ∧ pm_Rng σ ∧ (0 ≤ kd ∧ kd ≤ 2 ∧ 1 ≤ n1 ∧ n1 ≤ 10 ∧ pm_in b1 ∧ (kd = 2 → 0 ≤ b1 ∧ b1 ≤ 9))
def po_X5_lay (as : List pm_V) (_ : Nat) (σ : pm_H) (r : Option pm_V) (τ : pm_H) : Prop := ∀ kd n1 b1 : Int, as = [.inr (.inr (3, 0)), .inl kd, .inl n1, .inl b1] → r = none ∧ pm_Rng τ ∧ pm_Fr [(3, some 0), (3, some 1), (3, some 2), (3, some 3), (3, some 4), (6, none), (7, none)] σ τ ∧ (τ 3 0 3 = 0 ∧ τ 3 0 0 = kd ∧ τ 3 0 1 = n1 ∧ τ 3 0 2 = b1)
set_option maxRecDepth 20000 in
set_option maxHeartbeats 4000000 in
theorem ct_X5_lay : pm_Ct yX5_lay cX5_lay 4 none 4 0 pre_X5_lay po_X5_lay := pm_sound (ini := false) (by decide +kernel) pk_X5_lay (fun h => absurd h (by decide)) (by
  rintro as n s0 ⟨kd, n1, b1, rfl, rfl, R0, hpre⟩
  refine ⟨by decide, Nat.le_of_ble_eq_true rfl, fun G hG => ?_⟩
  have hG : pm_Rules (RX5, 4, 122, cX5_lay, -1, (fun _ => 0), false, none, po_X5_lay [.inr (.inr (3, 0)), .inl kd, .inl n1, .inl b1] 122 s0) G := hG
  show G 0 [some (.inr (.inr (3, 0))), some (.inl kd), some (.inl n1), some (.inl b1)] [] 122 s0
  refine px_aload_n hG dX5_lay_0 rfl ?_
  refine px_iload_n hG dX5_lay_1 rfl ?_
  refine pi_3_0 hG dX5_lay_2 fl_X5_9 R0 (by omega) (fun s1 qs1 Rs1 => ?_)
  have Fs1 := pm_Fr_up ((pm_Fr_rf : pm_Fr [(3, some 0), (3, some 1), (3, some 2), (3, some 3), (3, some 4), (6, none), (7, none)] s0 s0)) qs1 (M := [(3, some 0), (3, some 1), (3, some 2), (3, some 3), (3, some 4), (6, none), (7, none)]) rfl
  have k2 : s1 3 0 0 = kd := pm_at qs1
  refine px_aload_n hG dX5_lay_5 rfl ?_
  refine px_iload_n hG dX5_lay_6 rfl ?_
  refine pi_3_1 hG dX5_lay_7 fl_X5_15 Rs1 (by omega) (fun s3 qs3 Rs3 => ?_)
  have Fs3 := pm_Fr_up (Fs1) qs3 (M := [(3, some 0), (3, some 1), (3, some 2), (3, some 3), (3, some 4), (6, none), (7, none)]) rfl
  have k4 : s3 3 0 0 = kd := (pm_nei qs3 (by decide)).trans k2
  have k5 : s3 3 0 1 = n1 := pm_at qs3
  refine px_aload_n hG dX5_lay_10 rfl ?_
  refine px_iload_n hG dX5_lay_11 rfl ?_
  refine pi_3_2 hG dX5_lay_12 fl_X5_18 Rs3 (by omega) (fun s6 qs6 Rs6 => ?_)
  have Fs6 := pm_Fr_up (Fs3) qs6 (M := [(3, some 0), (3, some 1), (3, some 2), (3, some 3), (3, some 4), (6, none), (7, none)]) rfl
  have k7 : s6 3 0 0 = kd := (pm_nei qs6 (by decide)).trans k4
  have k8 : s6 3 0 1 = n1 := (pm_nei qs6 (by decide)).trans k5
  have k9 : s6 3 0 2 = b1 := pm_at qs6
  refine px_aload_n hG dX5_lay_15 rfl ?_
  refine px_iconst hG dX5_lay_16 ?_
  refine jv1 hG dX5_lay_17 ct_X5_leaveOnly lk_X5_43 ⟨rfl, rfl⟩ (by decide) ⟨Nat.le_of_ble_eq_true rfl, Nat.le_of_ble_eq_true rfl, Nat.le_of_ble_eq_true rfl⟩ (Nat.le_of_ble_eq_true rfl) ⟨0, rfl, rfl, Rs6, by omega⟩ (fun r10 t12 pr10 => ?_)
  obtain ⟨rfl, Rt12, Ft12, br10⟩ := pr10 _ rfl
  have Ff14 := pm_Fr_tr Fs6 Ft12 (M := [(3, some 0), (3, some 1), (3, some 2), (3, some 3), (3, some 4), (6, none), (7, none)]) rfl
  have k15 : t12 3 0 0 = kd := (Ft12 3 0 0 rfl).trans k7
  have k16 : t12 3 0 1 = n1 := (Ft12 3 0 1 rfl).trans k8
  have k17 : t12 3 0 2 = b1 := (Ft12 3 0 2 rfl).trans k9
  show G 20 [some (.inr (.inr (3, 0))), some (.inl kd), some (.inl n1), some (.inl b1)] [] 122 t12
  exact px_vret (st := []) hG dX5_lay_20 rfl rfl (fun kd_1 n1_1 b1_1 ee => by cases ee; exact ⟨rfl, Rt12, Ff14, by omega⟩))
def pre_X5_take (as : List pm_V) (n : Nat) (σ : pm_H) : Prop := ∃ sz : Int, as = [.inr (.inr (3, 0)), .inr (.inr (39, 0)), .inl sz] ∧ n = 122 ∧ pm_Rng σ ∧ (0 ≤ sz ∧ sz ≤ 10 ∧ (σ 3 0 0 = 2 → 0 ≤ σ 3 0 2 ∧ σ 3 0 2 ≤ 9))
def po_X5_take (as : List pm_V) (_ : Nat) (σ : pm_H) (r : Option pm_V) (τ : pm_H) : Prop := ∀ sz : Int, as = [.inr (.inr (3, 0)), .inr (.inr (39, 0)), .inl sz] → r = none ∧ pm_Rng τ ∧ pm_Fr [(3, some 3), (4, none), (5, none), (3, some 4), (6, none), (7, none)] σ τ ∧ (τ 3 0 3 = sz)
set_option maxRecDepth 20000 in
set_option maxHeartbeats 4000000 in
theorem ct_X5_take : pm_Ct yX5_take cX5_take 4 none 3 0 pre_X5_take po_X5_take := pm_sound (ini := false) (by decide +kernel) pk_X5_take (fun h => absurd h (by decide)) (by
  rintro as n s0 ⟨sz, rfl, rfl, R0, hpre⟩
  refine ⟨by decide, Nat.le_of_ble_eq_true rfl, fun G hG => ?_⟩
  have hG : pm_Rules (RX5, 3, 122, cX5_take, -1, (fun _ => 0), false, none, po_X5_take [.inr (.inr (3, 0)), .inr (.inr (39, 0)), .inl sz] 122 s0) G := hG
  show G 0 [some (.inr (.inr (3, 0))), some (.inr (.inr (39, 0))), some (.inl sz), none] [] 122 s0
  refine px_aload_n hG dX5_take_0 rfl ?_
  refine px_iconst hG dX5_take_1 ?_
  refine pi_3_3 hG dX5_take_2 fl_X5_21 R0 (by omega) (fun s1 qs1 Rs1 => ?_)
  have Fs1 := pm_Fr_up ((pm_Fr_rf : pm_Fr [(3, some 3), (4, none), (5, none), (3, some 4), (6, none), (7, none)] s0 s0)) qs1 (M := [(3, some 3), (4, none), (5, none), (3, some 4), (6, none), (7, none)]) rfl
  have k2 : s1 3 0 3 = 0 := pm_at qs1
  refine px_iconst hG dX5_take_5 ?_
  refine px_istore_n hG dX5_take_6 (Nat.le_of_ble_eq_true rfl) (L2 := [some (.inr (.inr (3, 0))), some (.inr (.inr (39, 0))), some (.inl sz), some (.inl 1)]) rfl ?_
  have L7 : ∀ (N : Nat) (v3_3 : Int) (s4 : pm_H), pm_Rng s4 → pm_Fr [(3, some 3), (4, none), (5, none), (3, some 4), (6, none), (7, none)] s0 s4 → ((1 ≤ v3_3 ∧ v3_3 ≤ 10000) ∧ (s4 3 0 3 = v3_3 - 1 ∧ v3_3 ≤ sz + 1)) → (10001 - v3_3).toNat < N → G 7 [some (.inr (.inr (3, 0))), some (.inr (.inr (39, 0))), some (.inl sz), some (.inl v3_3)] [] 122 s4 := by
    intro N
    induction N with
    | zero => intro v3_3 s4 R5 F6 inv8 hm9; exact absurd hm9 (Nat.not_lt_zero _)
    | succ N ih7 =>
      intro v3_3 s4 R5 F6 inv8 hm9
      refine px_iload_n hG dX5_take_7 rfl ?_
      refine px_iload_n hG dX5_take_8 rfl ?_
      refine px_ic_gt hG dX5_take_9 (tgt := 25) (by decide) ⟨by omega, by omega⟩ ⟨by omega, by omega⟩ (fun c10 => ?_) (fun c10 => ?_)
      · refine px_aload_n hG dX5_take_25 rfl ?_
        refine jv0 hG dX5_take_26 ct_X5_settle lk_X5_47 ⟨rfl, rfl⟩ (by decide) ⟨Nat.le_of_ble_eq_true rfl, Nat.le_of_ble_eq_true rfl, Nat.le_of_ble_eq_true rfl⟩ (Nat.le_of_ble_eq_true rfl) ⟨rfl, rfl, R5, by rw [F6 3 0 0 rfl, F6 3 0 2 rfl]; exact hpre.2.2⟩ (fun r11 t13 pr11 => ?_)
        obtain ⟨rfl, Rt13, Ft13⟩ := pr11 rfl
        have Ff15 := pm_Fr_tr F6 Ft13 (M := [(3, some 3), (4, none), (5, none), (3, some 4), (6, none), (7, none)]) rfl
        show G 29 [some (.inr (.inr (3, 0))), some (.inr (.inr (39, 0))), some (.inl sz), some (.inl v3_3)] [] 122 t13
        have kk := Ft13 3 0 3 rfl
        exact px_vret (st := []) hG dX5_take_29 rfl rfl (fun sz_1 ee => by cases ee; exact ⟨rfl, Rt13, Ff15, by omega⟩)
      · refine px_aload_n hG dX5_take_12 rfl ?_
        refine px_aload_n hG dX5_take_13 rfl ?_
        refine px_iload_n hG dX5_take_14 rfl ?_
        refine al_39 hG dX5_take_15 R5 (by omega) (fun x16 ex16 lx16 ux16 => ?_)
        refine jv1 hG dX5_take_16 ct_X5_add lk_X5_50 ⟨rfl, rfl⟩ (by decide) ⟨Nat.le_of_ble_eq_true rfl, Nat.le_of_ble_eq_true rfl, Nat.le_of_ble_eq_true rfl⟩ (Nat.le_of_ble_eq_true rfl) ⟨x16, rfl, rfl, R5, by omega⟩ (fun r17 t19 pr17 => ?_)
        obtain ⟨rfl, Rt19, Ft19, br17⟩ := pr17 _ rfl
        have Ff21 := pm_Fr_tr F6 Ft19 (M := [(3, some 3), (4, none), (5, none), (3, some 4), (6, none), (7, none)]) rfl
        show G 19 [some (.inr (.inr (3, 0))), some (.inr (.inr (39, 0))), some (.inl sz), some (.inl v3_3)] [] 122 t19
        refine px_iinc hG dX5_take_19 (Nat.le_of_ble_eq_true rfl) rfl (L2 := [some (.inr (.inr (3, 0))), some (.inr (.inr (39, 0))), some (.inl sz), some (.inl (v3_3 + 1))]) rfl ?_
        refine px_goto hG dX5_take_22 (tgt := 7) (by decide) ?_
        exact ih7 (v3_3 + 1) t19 Rt19 Ff21 (⟨by omega, by omega⟩) (by omega)
  exact L7 _ 1 s1 Rs1 Fs1 (⟨by omega, by omega⟩) (Nat.lt_succ_self _))
def pre_X5_comesIn (as : List pm_V) (n : Nat) (σ : pm_H) : Prop := ∃ car : Int, as = [.inr (.inr (3, 0)), .inl car] ∧ n = 122 ∧ pm_Rng σ ∧ (1 ≤ car ∧ car ≤ 10)
def po_X5_comesIn (as : List pm_V) (_ : Nat) (σ : pm_H) (r : Option pm_V) (τ : pm_H) : Prop := ∀ car : Int, as = [.inr (.inr (3, 0)), .inl car] → ∃ v : Int, r = some (.inl v) ∧ σ = τ ∧ ((v = 0 ∨ v = 1))
set_option maxRecDepth 20000 in
set_option maxHeartbeats 4000000 in
theorem ct_X5_comesIn : pm_Ct yX5_comesIn cX5_comesIn 2 (some .boolean) 0 0 pre_X5_comesIn po_X5_comesIn := pm_sound (ini := false) (by decide +kernel) pk_X5_comesIn (fun h => absurd h (by decide)) (by
  rintro as n s0 ⟨car, rfl, rfl, R0, hpre⟩
  refine ⟨by decide, Nat.le_of_ble_eq_true rfl, fun G hG => ?_⟩
  have hG : pm_Rules (RX5, 0, 122, cX5_comesIn, -1, (fun _ => 0), false, (some .boolean), po_X5_comesIn [.inr (.inr (3, 0)), .inl car] 122 s0) G := hG
  show G 0 [some (.inr (.inr (3, 0))), some (.inl car)] [] 122 s0
  refine px_aload_n hG dX5_comesIn_0 rfl ?_
  refine gr_3_7 hG dX5_comesIn_1 fl_X5_34 R0 ?_
  refine px_iload_n hG dX5_comesIn_4 rfl ?_
  refine al_6 hG dX5_comesIn_5 R0 (by omega) (fun x1 ex1 lx1 ux1 => ?_)
  refine px_if_eq hG dX5_comesIn_6 (tgt := 13) (by decide) ⟨by omega, by omega⟩ (fun c2 => ?_) (fun c2 => ?_)
  · refine px_iconst hG dX5_comesIn_13 ?_
    exact px_zret (st := []) hG dX5_comesIn_14 rfl (by omega) rfl (fun car_1 ee => by cases ee; exact ⟨_, rfl, rfl, by omega⟩)
  · refine px_iconst hG dX5_comesIn_9 ?_
    refine px_goto hG dX5_comesIn_10 (tgt := 14) (by decide) ?_
    exact px_zret (st := []) hG dX5_comesIn_14 rfl (by omega) rfl (fun car_1 ee => by cases ee; exact ⟨_, rfl, rfl, by omega⟩))
def pre_X5_isLucky (as : List pm_V) (n : Nat) (σ : pm_H) : Prop := ∃ car : Int, as = [.inr (.inr (3, 0)), .inl car] ∧ n = 122 ∧ pm_Rng σ ∧ (1 ≤ car ∧ car ≤ 10)
def po_X5_isLucky (as : List pm_V) (_ : Nat) (σ : pm_H) (r : Option pm_V) (τ : pm_H) : Prop := ∀ car : Int, as = [.inr (.inr (3, 0)), .inl car] → ∃ v : Int, r = some (.inl v) ∧ σ = τ ∧ ((v = 0 ∨ v = 1))
set_option maxRecDepth 20000 in
set_option maxHeartbeats 4000000 in
theorem ct_X5_isLucky : pm_Ct yX5_isLucky cX5_isLucky 2 (some .boolean) 0 0 pre_X5_isLucky po_X5_isLucky := pm_sound (ini := false) (by decide +kernel) pk_X5_isLucky (fun h => absurd h (by decide)) (by
  rintro as n s0 ⟨car, rfl, rfl, R0, hpre⟩
  refine ⟨by decide, Nat.le_of_ble_eq_true rfl, fun G hG => ?_⟩
  have hG : pm_Rules (RX5, 0, 122, cX5_isLucky, -1, (fun _ => 0), false, (some .boolean), po_X5_isLucky [.inr (.inr (3, 0)), .inl car] 122 s0) G := hG
  show G 0 [some (.inr (.inr (3, 0))), some (.inl car)] [] 122 s0
  refine px_aload_n hG dX5_isLucky_0 rfl ?_
  refine gr_3_7 hG dX5_isLucky_1 fl_X5_34 R0 ?_
  refine px_iload_n hG dX5_isLucky_4 rfl ?_
  refine al_6 hG dX5_isLucky_5 R0 (by omega) (fun x1 ex1 lx1 ux1 => ?_)
  refine px_aload_n hG dX5_isLucky_6 rfl ?_
  refine gr_3_5 hG dX5_isLucky_7 fl_X5_27 R0 ?_
  refine px_iload_n hG dX5_isLucky_10 rfl ?_
  refine al_4 hG dX5_isLucky_11 R0 (by omega) (fun x2 ex2 lx2 ux2 => ?_)
  refine px_ic_ne hG dX5_isLucky_12 (tgt := 19) (by decide) ⟨by omega, by omega⟩ ⟨by omega, by omega⟩ (fun c3 => ?_) (fun c3 => ?_)
  · refine px_iconst hG dX5_isLucky_19 ?_
    exact px_zret (st := []) hG dX5_isLucky_20 rfl (by omega) rfl (fun car_1 ee => by cases ee; exact ⟨_, rfl, rfl, by omega⟩)
  · refine px_iconst hG dX5_isLucky_15 ?_
    refine px_goto hG dX5_isLucky_16 (tgt := 20) (by decide) ?_
    exact px_zret (st := []) hG dX5_isLucky_20 rfl (by omega) rfl (fun car_1 ee => by cases ee; exact ⟨_, rfl, rfl, by omega⟩))
def pre_X5_far (as : List pm_V) (n : Nat) (σ : pm_H) : Prop := ∃ car : Int, as = [.inr (.inr (3, 0)), .inl car] ∧ n = 122 ∧ pm_Rng σ ∧ (1 ≤ car ∧ car ≤ 10)
def po_X5_far (as : List pm_V) (_ : Nat) (σ : pm_H) (r : Option pm_V) (τ : pm_H) : Prop := ∀ car : Int, as = [.inr (.inr (3, 0)), .inl car] → ∃ v : Int, r = some (.inl v) ∧ σ = τ ∧ (-20 ≤ v ∧ v ≤ 20)
set_option maxRecDepth 20000 in
set_option maxHeartbeats 4000000 in
theorem ct_X5_far : pm_Ct yX5_far cX5_far 3 (some .int) 0 0 pre_X5_far po_X5_far := pm_sound (ini := false) (by decide +kernel) pk_X5_far (fun h => absurd h (by decide)) (by
  rintro as n s0 ⟨car, rfl, rfl, R0, hpre⟩
  refine ⟨by decide, Nat.le_of_ble_eq_true rfl, fun G hG => ?_⟩
  have hG : pm_Rules (RX5, 0, 122, cX5_far, -1, (fun _ => 0), false, (some .int), po_X5_far [.inr (.inr (3, 0)), .inl car] 122 s0) G := hG
  show G 0 [some (.inr (.inr (3, 0))), some (.inl car), none] [] 122 s0
  refine px_aload_n hG dX5_far_0 rfl ?_
  refine gr_3_7 hG dX5_far_1 fl_X5_34 R0 ?_
  refine px_iload_n hG dX5_far_4 rfl ?_
  refine al_6 hG dX5_far_5 R0 (by omega) (fun x1 ex1 lx1 ux1 => ?_)
  refine px_aload_n hG dX5_far_6 rfl ?_
  refine gr_3_5 hG dX5_far_7 fl_X5_27 R0 ?_
  refine px_iload_n hG dX5_far_10 rfl ?_
  refine al_4 hG dX5_far_11 R0 (by omega) (fun x2 ex2 lx2 ux2 => ?_)
  refine px_isub hG dX5_far_12 ?_
  refine px_istore_n hG dX5_far_13 (Nat.le_of_ble_eq_true rfl) (L2 := [some (.inr (.inr (3, 0))), some (.inl car), some (.inl (x1 - x2))]) rfl ?_
  refine px_iload_n hG dX5_far_14 rfl ?_
  refine px_if_lt hG dX5_far_15 (tgt := 20) (by decide) ⟨by omega, by omega⟩ (fun c3 => ?_) (fun c3 => ?_)
  · refine px_aload_n hG dX5_far_20 rfl ?_
    refine gi_3_0 hG dX5_far_21 fl_X5_9 R0 (fun x4 ex4 lx4 ux4 => ?_)
    refine px_iconst hG dX5_far_24 ?_
    refine px_ic_ne hG dX5_far_25 (tgt := 37) (by decide) ⟨by omega, by omega⟩ ⟨by omega, by omega⟩ (fun c5 => ?_) (fun c5 => ?_)
    · refine px_iload_n hG dX5_far_37 rfl ?_
      refine px_ineg hG dX5_far_38 ?_
      exact px_iret (st := []) hG dX5_far_39 rfl rfl (fun car_1 ee => by cases ee; exact ⟨_, rfl, rfl, by omega⟩)
    · refine px_iload_n hG dX5_far_28 rfl ?_
      refine px_aload_n hG dX5_far_29 rfl ?_
      refine gi_3_1 hG dX5_far_30 fl_X5_15 R0 (fun x6 ex6 lx6 ux6 => ?_)
      refine px_iadd hG dX5_far_33 ?_
      refine px_goto hG dX5_far_34 (tgt := 39) (by decide) ?_
      exact px_iret (st := []) hG dX5_far_39 rfl rfl (fun car_1 ee => by cases ee; exact ⟨_, rfl, rfl, by omega⟩)
  · refine px_iload_n hG dX5_far_18 rfl ?_
    exact px_iret (st := []) hG dX5_far_19 rfl rfl (fun car_1 ee => by cases ee; exact ⟨_, rfl, rfl, by omega⟩))
def pre_X5_carOn (as : List pm_V) (n : Nat) (σ : pm_H) : Prop := ∃ pl : Int, as = [.inr (.inr (3, 0)), .inl pl] ∧ n = 122 ∧ pm_Rng σ
def po_X5_carOn (as : List pm_V) (_ : Nat) (σ : pm_H) (r : Option pm_V) (τ : pm_H) : Prop := ∀ pl : Int, as = [.inr (.inr (3, 0)), .inl pl] → ∃ v : Int, r = some (.inl v) ∧ σ = τ ∧ (pm_in v)
set_option maxRecDepth 20000 in
set_option maxHeartbeats 4000000 in
theorem ct_X5_carOn : pm_Ct yX5_carOn cX5_carOn 3 (some .int) 1 0 pre_X5_carOn po_X5_carOn := pm_sound (ini := false) (by decide +kernel) pk_X5_carOn (fun h => absurd h (by decide)) (by
  rintro as n s0 ⟨pl, rfl, rfl, R0⟩
  refine ⟨by decide, Nat.le_of_ble_eq_true rfl, fun G hG => ?_⟩
  have hG : pm_Rules (RX5, 1, 122, cX5_carOn, -1, (fun _ => 0), false, (some .int), po_X5_carOn [.inr (.inr (3, 0)), .inl pl] 122 s0) G := hG
  show G 0 [some (.inr (.inr (3, 0))), some (.inl pl), none] [] 122 s0
  refine px_iconst hG dX5_carOn_0 ?_
  refine px_istore_n hG dX5_carOn_1 (Nat.le_of_ble_eq_true rfl) (L2 := [some (.inr (.inr (3, 0))), some (.inl pl), some (.inl 1)]) rfl ?_
  have L2 : ∀ (N : Nat) (v2_1 : Int), ((1 ≤ v2_1 ∧ v2_1 ≤ 10000)) → (10001 - v2_1).toNat < N → G 2 [some (.inr (.inr (3, 0))), some (.inl pl), some (.inl v2_1)] [] 122 s0 := by
    intro N
    induction N with
    | zero => intro v2_1 inv3 hm4; exact absurd hm4 (Nat.not_lt_zero _)
    | succ N ih2 =>
      intro v2_1 inv3 hm4
      refine px_iload_n hG dX5_carOn_2 rfl ?_
      refine px_aload_n hG dX5_carOn_3 rfl ?_
      refine gi_3_3 hG dX5_carOn_4 fl_X5_21 R0 (fun x5 ex5 lx5 ux5 => ?_)
      refine px_ic_gt hG dX5_carOn_7 (tgt := 32) (by decide) ⟨by omega, by omega⟩ ⟨by omega, by omega⟩ (fun c6 => ?_) (fun c6 => ?_)
      · refine px_bipush hG dX5_carOn_32 (by decide) ?_
        exact px_iret (st := []) hG dX5_carOn_34 rfl rfl (fun pl_1 ee => by cases ee; exact ⟨_, rfl, rfl, by omega⟩)
      · refine px_aload_n hG dX5_carOn_10 rfl ?_
        refine px_aload_n hG dX5_carOn_11 rfl ?_
        refine gr_3_8 hG dX5_carOn_12 fl_X5_37 R0 ?_
        refine px_iload_n hG dX5_carOn_15 rfl ?_
        refine al_7 hG dX5_carOn_16 R0 (by omega) (fun x7 ex7 lx7 ux7 => ?_)
        refine px_iload_n hG dX5_carOn_17 rfl ?_
        refine jv2 hG dX5_carOn_18 ct_X5_isFree lk_X5_61 ⟨rfl, rfl⟩ (by decide) ⟨Nat.le_of_ble_eq_true rfl, Nat.le_of_ble_eq_true rfl, Nat.le_of_ble_eq_true rfl⟩ (Nat.le_of_ble_eq_true rfl) ⟨x7, pl, rfl, rfl, R0⟩ (fun r8 t9 pr8 => ?_)
        obtain ⟨x10, rfl, rfl, br8⟩ := pr8 _ _ rfl
        show G 21 [some (.inr (.inr (3, 0))), some (.inl pl), some (.inl v2_1)] [.inl x10] 122 s0
        refine px_if_ne hG dX5_carOn_21 (tgt := 26) (by decide) ⟨by omega, by omega⟩ (fun c11 => ?_) (fun c11 => ?_)
        · refine px_iinc hG dX5_carOn_26 (Nat.le_of_ble_eq_true rfl) rfl (L2 := [some (.inr (.inr (3, 0))), some (.inl pl), some (.inl (v2_1 + 1))]) rfl ?_
          refine px_goto hG dX5_carOn_29 (tgt := 2) (by decide) ?_
          exact ih2 (v2_1 + 1) (by omega) (by omega)
        · refine px_iload_n hG dX5_carOn_24 rfl ?_
          exact px_iret (st := []) hG dX5_carOn_25 rfl rfl (fun pl_1 ee => by cases ee; exact ⟨_, rfl, rfl, by omega⟩)
  exact L2 _ 1 (by omega) (Nat.lt_succ_self _))
def pre_X5_howManyIn (as : List pm_V) (n : Nat) (σ : pm_H) : Prop := as = [.inr (.inr (3, 0))] ∧ n = 122 ∧ pm_Rng σ
def po_X5_howManyIn (as : List pm_V) (_ : Nat) (σ : pm_H) (r : Option pm_V) (τ : pm_H) : Prop := as = [.inr (.inr (3, 0))] → ∃ v : Int, r = some (.inl v) ∧ σ = τ ∧ (0 ≤ v ∧ v ≤ 10)
set_option maxRecDepth 20000 in
set_option maxHeartbeats 4000000 in
theorem ct_X5_howManyIn : pm_Ct yX5_howManyIn cX5_howManyIn 3 (some .int) 1 0 pre_X5_howManyIn po_X5_howManyIn := pm_sound (ini := false) (by decide +kernel) pk_X5_howManyIn (fun h => absurd h (by decide)) (by
  rintro as n s0 ⟨rfl, rfl, R0⟩
  refine ⟨by decide, Nat.le_of_ble_eq_true rfl, fun G hG => ?_⟩
  have hG : pm_Rules (RX5, 1, 122, cX5_howManyIn, -1, (fun _ => 0), false, (some .int), po_X5_howManyIn [.inr (.inr (3, 0))] 122 s0) G := hG
  show G 0 [some (.inr (.inr (3, 0))), none, none] [] 122 s0
  refine px_iconst hG dX5_howManyIn_0 ?_
  refine px_istore_n hG dX5_howManyIn_1 (Nat.le_of_ble_eq_true rfl) (L2 := [some (.inr (.inr (3, 0))), some (.inl 0), none]) rfl ?_
  refine px_iconst hG dX5_howManyIn_2 ?_
  refine px_istore_n hG dX5_howManyIn_3 (Nat.le_of_ble_eq_true rfl) (L2 := [some (.inr (.inr (3, 0))), some (.inl 0), some (.inl 1)]) rfl ?_
  have L4 : ∀ (N : Nat) (v1_1 : Int) (v2_2 : Int), ((0 ≤ v1_1 ∧ v1_1 ≤ 10000) ∧ (1 ≤ v2_2 ∧ v2_2 ≤ 10000) ∧ (0 ≤ v1_1 ∧ v1_1 ≤ v2_2 - 1 ∧ v2_2 ≤ 11)) → (10001 - v2_2).toNat < N → G 4 [some (.inr (.inr (3, 0))), some (.inl v1_1), some (.inl v2_2)] [] 122 s0 := by
    intro N
    induction N with
    | zero => intro v1_1 v2_2 inv4 hm5; exact absurd hm5 (Nat.not_lt_zero _)
    | succ N ih3 =>
      intro v1_1 v2_2 inv4 hm5
      refine px_iload_n hG dX5_howManyIn_4 rfl ?_
      refine px_aload_n hG dX5_howManyIn_5 rfl ?_
      refine gi_3_3 hG dX5_howManyIn_6 fl_X5_21 R0 (fun x6 ex6 lx6 ux6 => ?_)
      refine px_ic_gt hG dX5_howManyIn_9 (tgt := 29) (by decide) ⟨by omega, by omega⟩ ⟨by omega, by omega⟩ (fun c7 => ?_) (fun c7 => ?_)
      · refine px_iload_n hG dX5_howManyIn_29 rfl ?_
        exact px_iret (st := []) hG dX5_howManyIn_30 rfl rfl (fun _ => by exact ⟨_, rfl, rfl, by omega⟩)
      · refine px_aload_n hG dX5_howManyIn_12 rfl ?_
        refine px_iload_n hG dX5_howManyIn_13 rfl ?_
        refine jv1 hG dX5_howManyIn_14 ct_X5_comesIn lk_X5_65 ⟨rfl, rfl⟩ (by decide) ⟨Nat.le_of_ble_eq_true rfl, Nat.le_of_ble_eq_true rfl, Nat.le_of_ble_eq_true rfl⟩ (Nat.le_of_ble_eq_true rfl) ⟨v2_2, rfl, rfl, R0, by omega⟩ (fun r8 t9 pr8 => ?_)
        obtain ⟨x10, rfl, rfl, br8⟩ := pr8 _ rfl
        show G 17 [some (.inr (.inr (3, 0))), some (.inl v1_1), some (.inl v2_2)] [.inl x10] 122 s0
        refine px_if_eq hG dX5_howManyIn_17 (tgt := 23) (by decide) ⟨by omega, by omega⟩ (fun c11 => ?_) (fun c11 => ?_)
        · refine px_iinc hG dX5_howManyIn_23 (Nat.le_of_ble_eq_true rfl) rfl (L2 := [some (.inr (.inr (3, 0))), some (.inl v1_1), some (.inl (v2_2 + 1))]) rfl ?_
          refine px_goto hG dX5_howManyIn_26 (tgt := 4) (by decide) ?_
          exact ih3 v1_1 (v2_2 + 1) (⟨by omega, by omega, by omega⟩) (by omega)
        · refine px_iinc hG dX5_howManyIn_20 (Nat.le_of_ble_eq_true rfl) rfl (L2 := [some (.inr (.inr (3, 0))), some (.inl (v1_1 + 1)), some (.inl v2_2)]) rfl ?_
          refine px_iinc hG dX5_howManyIn_23 (Nat.le_of_ble_eq_true rfl) rfl (L2 := [some (.inr (.inr (3, 0))), some (.inl (v1_1 + 1)), some (.inl (v2_2 + 1))]) rfl ?_
          refine px_goto hG dX5_howManyIn_26 (tgt := 4) (by decide) ?_
          exact ih3 (v1_1 + 1) (v2_2 + 1) (⟨by omega, by omega, by omega⟩) (by omega)
  exact L4 _ 0 1 (⟨by omega, by omega, by omega⟩) (Nat.lt_succ_self _))
def pre_X5_howManyLucky (as : List pm_V) (n : Nat) (σ : pm_H) : Prop := as = [.inr (.inr (3, 0))] ∧ n = 122 ∧ pm_Rng σ
def po_X5_howManyLucky (as : List pm_V) (_ : Nat) (σ : pm_H) (r : Option pm_V) (τ : pm_H) : Prop := as = [.inr (.inr (3, 0))] → ∃ v : Int, r = some (.inl v) ∧ σ = τ ∧ (0 ≤ v ∧ v ≤ 10)
set_option maxRecDepth 20000 in
set_option maxHeartbeats 4000000 in
theorem ct_X5_howManyLucky : pm_Ct yX5_howManyLucky cX5_howManyLucky 3 (some .int) 1 0 pre_X5_howManyLucky po_X5_howManyLucky := pm_sound (ini := false) (by decide +kernel) pk_X5_howManyLucky (fun h => absurd h (by decide)) (by
  rintro as n s0 ⟨rfl, rfl, R0⟩
  refine ⟨by decide, Nat.le_of_ble_eq_true rfl, fun G hG => ?_⟩
  have hG : pm_Rules (RX5, 1, 122, cX5_howManyLucky, -1, (fun _ => 0), false, (some .int), po_X5_howManyLucky [.inr (.inr (3, 0))] 122 s0) G := hG
  show G 0 [some (.inr (.inr (3, 0))), none, none] [] 122 s0
  refine px_iconst hG dX5_howManyLucky_0 ?_
  refine px_istore_n hG dX5_howManyLucky_1 (Nat.le_of_ble_eq_true rfl) (L2 := [some (.inr (.inr (3, 0))), some (.inl 0), none]) rfl ?_
  refine px_iconst hG dX5_howManyLucky_2 ?_
  refine px_istore_n hG dX5_howManyLucky_3 (Nat.le_of_ble_eq_true rfl) (L2 := [some (.inr (.inr (3, 0))), some (.inl 0), some (.inl 1)]) rfl ?_
  have L4 : ∀ (N : Nat) (v1_1 : Int) (v2_2 : Int), ((0 ≤ v1_1 ∧ v1_1 ≤ 10000) ∧ (1 ≤ v2_2 ∧ v2_2 ≤ 10000) ∧ (0 ≤ v1_1 ∧ v1_1 ≤ v2_2 - 1 ∧ v2_2 ≤ 11)) → (10001 - v2_2).toNat < N → G 4 [some (.inr (.inr (3, 0))), some (.inl v1_1), some (.inl v2_2)] [] 122 s0 := by
    intro N
    induction N with
    | zero => intro v1_1 v2_2 inv4 hm5; exact absurd hm5 (Nat.not_lt_zero _)
    | succ N ih3 =>
      intro v1_1 v2_2 inv4 hm5
      refine px_iload_n hG dX5_howManyLucky_4 rfl ?_
      refine px_aload_n hG dX5_howManyLucky_5 rfl ?_
      refine gi_3_3 hG dX5_howManyLucky_6 fl_X5_21 R0 (fun x6 ex6 lx6 ux6 => ?_)
      refine px_ic_gt hG dX5_howManyLucky_9 (tgt := 29) (by decide) ⟨by omega, by omega⟩ ⟨by omega, by omega⟩ (fun c7 => ?_) (fun c7 => ?_)
      · refine px_iload_n hG dX5_howManyLucky_29 rfl ?_
        exact px_iret (st := []) hG dX5_howManyLucky_30 rfl rfl (fun _ => by exact ⟨_, rfl, rfl, by omega⟩)
      · refine px_aload_n hG dX5_howManyLucky_12 rfl ?_
        refine px_iload_n hG dX5_howManyLucky_13 rfl ?_
        refine jv1 hG dX5_howManyLucky_14 ct_X5_isLucky lk_X5_69 ⟨rfl, rfl⟩ (by decide) ⟨Nat.le_of_ble_eq_true rfl, Nat.le_of_ble_eq_true rfl, Nat.le_of_ble_eq_true rfl⟩ (Nat.le_of_ble_eq_true rfl) ⟨v2_2, rfl, rfl, R0, by omega⟩ (fun r8 t9 pr8 => ?_)
        obtain ⟨x10, rfl, rfl, br8⟩ := pr8 _ rfl
        show G 17 [some (.inr (.inr (3, 0))), some (.inl v1_1), some (.inl v2_2)] [.inl x10] 122 s0
        refine px_if_eq hG dX5_howManyLucky_17 (tgt := 23) (by decide) ⟨by omega, by omega⟩ (fun c11 => ?_) (fun c11 => ?_)
        · refine px_iinc hG dX5_howManyLucky_23 (Nat.le_of_ble_eq_true rfl) rfl (L2 := [some (.inr (.inr (3, 0))), some (.inl v1_1), some (.inl (v2_2 + 1))]) rfl ?_
          refine px_goto hG dX5_howManyLucky_26 (tgt := 4) (by decide) ?_
          exact ih3 v1_1 (v2_2 + 1) (⟨by omega, by omega, by omega⟩) (by omega)
        · refine px_iinc hG dX5_howManyLucky_20 (Nat.le_of_ble_eq_true rfl) rfl (L2 := [some (.inr (.inr (3, 0))), some (.inl (v1_1 + 1)), some (.inl v2_2)]) rfl ?_
          refine px_iinc hG dX5_howManyLucky_23 (Nat.le_of_ble_eq_true rfl) rfl (L2 := [some (.inr (.inr (3, 0))), some (.inl (v1_1 + 1)), some (.inl (v2_2 + 1))]) rfl ?_
          refine px_goto hG dX5_howManyLucky_26 (tgt := 4) (by decide) ?_
          exact ih3 (v1_1 + 1) (v2_2 + 1) (⟨by omega, by omega, by omega⟩) (by omega)
  exact L4 _ 0 1 (⟨by omega, by omega, by omega⟩) (Nat.lt_succ_self _))
def pre_X5_farOfAll (as : List pm_V) (n : Nat) (σ : pm_H) : Prop := as = [.inr (.inr (3, 0))] ∧ n = 122 ∧ pm_Rng σ
def po_X5_farOfAll (as : List pm_V) (_ : Nat) (σ : pm_H) (r : Option pm_V) (τ : pm_H) : Prop := as = [.inr (.inr (3, 0))] → ∃ v : Int, r = some (.inl v) ∧ σ = τ ∧ (pm_in v)
set_option maxRecDepth 20000 in
set_option maxHeartbeats 4000000 in
theorem ct_X5_farOfAll : pm_Ct yX5_farOfAll cX5_farOfAll 3 (some .int) 1 0 pre_X5_farOfAll po_X5_farOfAll := pm_sound (ini := false) (by decide +kernel) pk_X5_farOfAll (fun h => absurd h (by decide)) (by
  rintro as n s0 ⟨rfl, rfl, R0⟩
  refine ⟨by decide, Nat.le_of_ble_eq_true rfl, fun G hG => ?_⟩
  have hG : pm_Rules (RX5, 1, 122, cX5_farOfAll, -1, (fun _ => 0), false, (some .int), po_X5_farOfAll [.inr (.inr (3, 0))] 122 s0) G := hG
  show G 0 [some (.inr (.inr (3, 0))), none, none] [] 122 s0
  refine px_iconst hG dX5_farOfAll_0 ?_
  refine px_istore_n hG dX5_farOfAll_1 (Nat.le_of_ble_eq_true rfl) (L2 := [some (.inr (.inr (3, 0))), some (.inl 0), none]) rfl ?_
  refine px_iconst hG dX5_farOfAll_2 ?_
  refine px_istore_n hG dX5_farOfAll_3 (Nat.le_of_ble_eq_true rfl) (L2 := [some (.inr (.inr (3, 0))), some (.inl 0), some (.inl 1)]) rfl ?_
  have L4 : ∀ (N : Nat) (v1_1 : Int) (v2_2 : Int), ((1 ≤ v2_2 ∧ v2_2 ≤ 10000) ∧ (-20 * v2_2 ≤ v1_1 ∧ v1_1 ≤ 20 * v2_2 ∧ v2_2 ≤ 11)) → (10001 - v2_2).toNat < N → G 4 [some (.inr (.inr (3, 0))), some (.inl v1_1), some (.inl v2_2)] [] 122 s0 := by
    intro N
    induction N with
    | zero => intro v1_1 v2_2 inv4 hm5; exact absurd hm5 (Nat.not_lt_zero _)
    | succ N ih3 =>
      intro v1_1 v2_2 inv4 hm5
      refine px_iload_n hG dX5_farOfAll_4 rfl ?_
      refine px_aload_n hG dX5_farOfAll_5 rfl ?_
      refine gi_3_3 hG dX5_farOfAll_6 fl_X5_21 R0 (fun x6 ex6 lx6 ux6 => ?_)
      refine px_ic_gt hG dX5_farOfAll_9 (tgt := 34) (by decide) ⟨by omega, by omega⟩ ⟨by omega, by omega⟩ (fun c7 => ?_) (fun c7 => ?_)
      · refine px_iload_n hG dX5_farOfAll_34 rfl ?_
        exact px_iret (st := []) hG dX5_farOfAll_35 rfl rfl (fun _ => by exact ⟨_, rfl, rfl, by omega⟩)
      · refine px_aload_n hG dX5_farOfAll_12 rfl ?_
        refine px_iload_n hG dX5_farOfAll_13 rfl ?_
        refine jv1 hG dX5_farOfAll_14 ct_X5_comesIn lk_X5_65 ⟨rfl, rfl⟩ (by decide) ⟨Nat.le_of_ble_eq_true rfl, Nat.le_of_ble_eq_true rfl, Nat.le_of_ble_eq_true rfl⟩ (Nat.le_of_ble_eq_true rfl) ⟨v2_2, rfl, rfl, R0, by omega⟩ (fun r8 t9 pr8 => ?_)
        obtain ⟨x10, rfl, rfl, br8⟩ := pr8 _ rfl
        show G 17 [some (.inr (.inr (3, 0))), some (.inl v1_1), some (.inl v2_2)] [.inl x10] 122 s0
        have J28_13 : ∀ (j12 : Int), (-20 * v2_2 - 20 ≤ j12 ∧ j12 ≤ 20 * v2_2 + 20) → G 28 [some (.inr (.inr (3, 0))), some (.inl j12), some (.inl v2_2)] [] 122 s0 := by
          intro j12 inv14
          refine px_iinc hG dX5_farOfAll_28 (Nat.le_of_ble_eq_true rfl) rfl (L2 := [some (.inr (.inr (3, 0))), some (.inl j12), some (.inl (v2_2 + 1))]) rfl ?_
          refine px_goto hG dX5_farOfAll_31 (tgt := 4) (by decide) ?_
          exact ih3 j12 (v2_2 + 1) (⟨by omega, by omega⟩) (by omega)
        refine px_if_eq hG dX5_farOfAll_17 (tgt := 28) (by decide) ⟨by omega, by omega⟩ (fun c11 => ?_) (fun c11 => ?_)
        · exact J28_13 v1_1 (by omega)
        · refine px_iload_n hG dX5_farOfAll_20 rfl ?_
          refine px_aload_n hG dX5_farOfAll_21 rfl ?_
          refine px_iload_n hG dX5_farOfAll_22 rfl ?_
          refine jv1 hG dX5_farOfAll_23 ct_X5_far lk_X5_72 ⟨rfl, rfl⟩ (by decide) ⟨Nat.le_of_ble_eq_true rfl, Nat.le_of_ble_eq_true rfl, Nat.le_of_ble_eq_true rfl⟩ (Nat.le_of_ble_eq_true rfl) ⟨v2_2, rfl, rfl, R0, by omega⟩ (fun r15 t16 pr15 => ?_)
          obtain ⟨x17, rfl, rfl, br15⟩ := pr15 _ rfl
          show G 26 [some (.inr (.inr (3, 0))), some (.inl v1_1), some (.inl v2_2)] [.inl x17, .inl v1_1] 122 s0
          refine px_iadd hG dX5_farOfAll_26 ?_
          refine px_istore_n hG dX5_farOfAll_27 (Nat.le_of_ble_eq_true rfl) (L2 := [some (.inr (.inr (3, 0))), some (.inl (v1_1 + x17)), some (.inl v2_2)]) rfl ?_
          exact J28_13 (v1_1 + x17) (by omega)
  exact L4 _ 0 1 (⟨by omega, by omega⟩) (Nat.lt_succ_self _))
def pre_X5_farthest (as : List pm_V) (n : Nat) (σ : pm_H) : Prop := as = [.inr (.inr (3, 0))] ∧ n = 122 ∧ pm_Rng σ
def po_X5_farthest (as : List pm_V) (_ : Nat) (σ : pm_H) (r : Option pm_V) (τ : pm_H) : Prop := as = [.inr (.inr (3, 0))] → ∃ v : Int, r = some (.inl v) ∧ σ = τ ∧ (pm_in v)
set_option maxRecDepth 20000 in
set_option maxHeartbeats 4000000 in
theorem ct_X5_farthest : pm_Ct yX5_farthest cX5_farthest 3 (some .int) 1 0 pre_X5_farthest po_X5_farthest := pm_sound (ini := false) (by decide +kernel) pk_X5_farthest (fun h => absurd h (by decide)) (by
  rintro as n s0 ⟨rfl, rfl, R0⟩
  refine ⟨by decide, Nat.le_of_ble_eq_true rfl, fun G hG => ?_⟩
  have hG : pm_Rules (RX5, 1, 122, cX5_farthest, -1, (fun _ => 0), false, (some .int), po_X5_farthest [.inr (.inr (3, 0))] 122 s0) G := hG
  show G 0 [some (.inr (.inr (3, 0))), none, none] [] 122 s0
  refine px_iconst hG dX5_farthest_0 ?_
  refine px_istore_n hG dX5_farthest_1 (Nat.le_of_ble_eq_true rfl) (L2 := [some (.inr (.inr (3, 0))), some (.inl 0), none]) rfl ?_
  refine px_iconst hG dX5_farthest_2 ?_
  refine px_istore_n hG dX5_farthest_3 (Nat.le_of_ble_eq_true rfl) (L2 := [some (.inr (.inr (3, 0))), some (.inl 0), some (.inl 1)]) rfl ?_
  have L4 : ∀ (N : Nat) (v1_1 : Int) (v2_2 : Int), ((1 ≤ v2_2 ∧ v2_2 ≤ 10000) ∧ (0 ≤ v1_1 ∧ v1_1 ≤ 20)) → (10001 - v2_2).toNat < N → G 4 [some (.inr (.inr (3, 0))), some (.inl v1_1), some (.inl v2_2)] [] 122 s0 := by
    intro N
    induction N with
    | zero => intro v1_1 v2_2 inv4 hm5; exact absurd hm5 (Nat.not_lt_zero _)
    | succ N ih3 =>
      intro v1_1 v2_2 inv4 hm5
      refine px_iload_n hG dX5_farthest_4 rfl ?_
      refine px_aload_n hG dX5_farthest_5 rfl ?_
      refine gi_3_3 hG dX5_farthest_6 fl_X5_21 R0 (fun x6 ex6 lx6 ux6 => ?_)
      refine px_ic_gt hG dX5_farthest_9 (tgt := 36) (by decide) ⟨by omega, by omega⟩ ⟨by omega, by omega⟩ (fun c7 => ?_) (fun c7 => ?_)
      · refine px_iload_n hG dX5_farthest_36 rfl ?_
        exact px_iret (st := []) hG dX5_farthest_37 rfl rfl (fun _ => by exact ⟨_, rfl, rfl, by omega⟩)
      · refine px_aload_n hG dX5_farthest_12 rfl ?_
        refine px_iload_n hG dX5_farthest_13 rfl ?_
        refine jv1 hG dX5_farthest_14 ct_X5_comesIn lk_X5_65 ⟨rfl, rfl⟩ (by decide) ⟨Nat.le_of_ble_eq_true rfl, Nat.le_of_ble_eq_true rfl, Nat.le_of_ble_eq_true rfl⟩ (Nat.le_of_ble_eq_true rfl) ⟨v2_2, rfl, rfl, R0, by omega⟩ (fun r8 t9 pr8 => ?_)
        obtain ⟨x10, rfl, rfl, br8⟩ := pr8 _ rfl
        show G 17 [some (.inr (.inr (3, 0))), some (.inl v1_1), some (.inl v2_2)] [.inl x10] 122 s0
        have J30_13 : ∀ (j12 : Int), (0 ≤ j12 ∧ j12 ≤ 20) → G 30 [some (.inr (.inr (3, 0))), some (.inl j12), some (.inl v2_2)] [] 122 s0 := by
          intro j12 inv14
          refine px_iinc hG dX5_farthest_30 (Nat.le_of_ble_eq_true rfl) rfl (L2 := [some (.inr (.inr (3, 0))), some (.inl j12), some (.inl (v2_2 + 1))]) rfl ?_
          refine px_goto hG dX5_farthest_33 (tgt := 4) (by decide) ?_
          exact ih3 j12 (v2_2 + 1) (⟨by omega, by omega⟩) (by omega)
        refine px_if_eq hG dX5_farthest_17 (tgt := 30) (by decide) ⟨by omega, by omega⟩ (fun c11 => ?_) (fun c11 => ?_)
        · exact J30_13 v1_1 (by omega)
        · refine px_iload_n hG dX5_farthest_20 rfl ?_
          refine px_aload_n hG dX5_farthest_21 rfl ?_
          refine px_iload_n hG dX5_farthest_22 rfl ?_
          refine jv1 hG dX5_farthest_23 ct_X5_far lk_X5_72 ⟨rfl, rfl⟩ (by decide) ⟨Nat.le_of_ble_eq_true rfl, Nat.le_of_ble_eq_true rfl, Nat.le_of_ble_eq_true rfl⟩ (Nat.le_of_ble_eq_true rfl) ⟨v2_2, rfl, rfl, R0, by omega⟩ (fun r15 t16 pr15 => ?_)
          obtain ⟨x17, rfl, rfl, br15⟩ := pr15 _ rfl
          show G 26 [some (.inr (.inr (3, 0))), some (.inl v1_1), some (.inl v2_2)] [.inl x17, .inl v1_1] 122 s0
          refine px_max hG dX5_farthest_26 lm_X5_76 (Nat.le_of_ble_eq_true rfl) (Nat.le_of_ble_eq_true rfl) ⟨⟨by omega, by omega⟩, ⟨by omega, by omega⟩⟩ (fun x18 bx18 => ?_)
          refine px_istore_n hG dX5_farthest_29 (Nat.le_of_ble_eq_true rfl) (L2 := [some (.inr (.inr (3, 0))), some (.inl x18), some (.inl v2_2)]) rfl ?_
          exact J30_13 x18 (by omega)
  exact L4 _ 0 1 (⟨by omega, by omega⟩) (Nat.lt_succ_self _))
def pre_X5_allIn (as : List pm_V) (n : Nat) (σ : pm_H) : Prop := as = [.inr (.inr (3, 0))] ∧ n = 122 ∧ pm_Rng σ
def po_X5_allIn (as : List pm_V) (_ : Nat) (σ : pm_H) (r : Option pm_V) (τ : pm_H) : Prop := as = [.inr (.inr (3, 0))] → ∃ v : Int, r = some (.inl v) ∧ σ = τ ∧ ((v = 0 ∨ v = 1))
set_option maxRecDepth 20000 in
set_option maxHeartbeats 4000000 in
theorem ct_X5_allIn : pm_Ct yX5_allIn cX5_allIn 1 (some .boolean) 2 0 pre_X5_allIn po_X5_allIn := pm_sound (ini := false) (by decide +kernel) pk_X5_allIn (fun h => absurd h (by decide)) (by
  rintro as n s0 ⟨rfl, rfl, R0⟩
  refine ⟨by decide, Nat.le_of_ble_eq_true rfl, fun G hG => ?_⟩
  have hG : pm_Rules (RX5, 2, 122, cX5_allIn, -1, (fun _ => 0), false, (some .boolean), po_X5_allIn [.inr (.inr (3, 0))] 122 s0) G := hG
  show G 0 [some (.inr (.inr (3, 0)))] [] 122 s0
  refine px_aload_n hG dX5_allIn_0 rfl ?_
  refine jv0 hG dX5_allIn_1 ct_X5_howManyIn lk_X5_81 ⟨rfl, rfl⟩ (by decide) ⟨Nat.le_of_ble_eq_true rfl, Nat.le_of_ble_eq_true rfl, Nat.le_of_ble_eq_true rfl⟩ (Nat.le_of_ble_eq_true rfl) ⟨rfl, rfl, R0⟩ (fun r1 t2 pr1 => ?_)
  obtain ⟨x3, rfl, rfl, br1⟩ := pr1 rfl
  show G 4 [some (.inr (.inr (3, 0)))] [.inl x3] 122 s0
  refine px_aload_n hG dX5_allIn_4 rfl ?_
  refine gi_3_3 hG dX5_allIn_5 fl_X5_21 R0 (fun x4 ex4 lx4 ux4 => ?_)
  refine px_ic_ne hG dX5_allIn_8 (tgt := 15) (by decide) ⟨by omega, by omega⟩ ⟨by omega, by omega⟩ (fun c5 => ?_) (fun c5 => ?_)
  · refine px_iconst hG dX5_allIn_15 ?_
    exact px_zret (st := []) hG dX5_allIn_16 rfl (by omega) rfl (fun _ => by exact ⟨_, rfl, rfl, by omega⟩)
  · refine px_iconst hG dX5_allIn_11 ?_
    refine px_goto hG dX5_allIn_12 (tgt := 16) (by decide) ?_
    exact px_zret (st := []) hG dX5_allIn_16 rfl (by omega) rfl (fun _ => by exact ⟨_, rfl, rfl, by omega⟩))
def pre_X5_isPlain (as : List pm_V) (n : Nat) (σ : pm_H) : Prop := as = [.inr (.inr (3, 0))] ∧ n = 122 ∧ pm_Rng σ
def po_X5_isPlain (as : List pm_V) (_ : Nat) (σ : pm_H) (r : Option pm_V) (τ : pm_H) : Prop := as = [.inr (.inr (3, 0))] → ∃ v : Int, r = some (.inl v) ∧ σ = τ ∧ ((v = 0 ∨ v = 1) ∧ (v = 1 → σ 3 0 0 = 0))
set_option maxRecDepth 20000 in
set_option maxHeartbeats 4000000 in
theorem ct_X5_isPlain : pm_Ct yX5_isPlain cX5_isPlain 2 (some .boolean) 0 0 pre_X5_isPlain po_X5_isPlain := pm_sound (ini := false) (by decide +kernel) pk_X5_isPlain (fun h => absurd h (by decide)) (by
  rintro as n s0 ⟨rfl, rfl, R0⟩
  refine ⟨by decide, Nat.le_of_ble_eq_true rfl, fun G hG => ?_⟩
  have hG : pm_Rules (RX5, 0, 122, cX5_isPlain, -1, (fun _ => 0), false, (some .boolean), po_X5_isPlain [.inr (.inr (3, 0))] 122 s0) G := hG
  show G 0 [some (.inr (.inr (3, 0))), none] [] 122 s0
  refine px_iconst hG dX5_isPlain_0 ?_
  refine px_istore_n hG dX5_isPlain_1 (Nat.le_of_ble_eq_true rfl) (L2 := [some (.inr (.inr (3, 0))), some (.inl 1)]) rfl ?_
  have L2 : ∀ (N : Nat) (v1_1 : Int), ((1 ≤ v1_1 ∧ v1_1 ≤ 10000)) → (10001 - v1_1).toNat < N → G 2 [some (.inr (.inr (3, 0))), some (.inl v1_1)] [] 122 s0 := by
    intro N
    induction N with
    | zero => intro v1_1 inv3 hm4; exact absurd hm4 (Nat.not_lt_zero _)
    | succ N ih2 =>
      intro v1_1 inv3 hm4
      refine px_iload_n hG dX5_isPlain_2 rfl ?_
      refine px_aload_n hG dX5_isPlain_3 rfl ?_
      refine gi_3_3 hG dX5_isPlain_4 fl_X5_21 R0 (fun x5 ex5 lx5 ux5 => ?_)
      refine px_ic_gt hG dX5_isPlain_7 (tgt := 28) (by decide) ⟨by omega, by omega⟩ ⟨by omega, by omega⟩ (fun c6 => ?_) (fun c6 => ?_)
      · refine px_aload_n hG dX5_isPlain_28 rfl ?_
        refine gi_3_0 hG dX5_isPlain_29 fl_X5_9 R0 (fun x7 ex7 lx7 ux7 => ?_)
        refine px_if_ne hG dX5_isPlain_32 (tgt := 39) (by decide) ⟨by omega, by omega⟩ (fun c8 => ?_) (fun c8 => ?_)
        · refine px_iconst hG dX5_isPlain_39 ?_
          exact px_zret (st := []) hG dX5_isPlain_40 rfl (by omega) rfl (fun _ => by exact ⟨_, rfl, rfl, by omega⟩)
        · refine px_iconst hG dX5_isPlain_35 ?_
          refine px_goto hG dX5_isPlain_36 (tgt := 40) (by decide) ?_
          exact px_zret (st := []) hG dX5_isPlain_40 rfl (by omega) rfl (fun _ => by exact ⟨_, rfl, rfl, by omega⟩)
      · refine px_aload_n hG dX5_isPlain_10 rfl ?_
        refine gr_3_6 hG dX5_isPlain_11 fl_X5_31 R0 ?_
        refine px_iload_n hG dX5_isPlain_14 rfl ?_
        refine al_5 hG dX5_isPlain_15 R0 (by omega) (fun x9 ex9 lx9 ux9 => ?_)
        refine px_iconst hG dX5_isPlain_16 ?_
        refine px_ic_eq hG dX5_isPlain_17 (tgt := 22) (by decide) ⟨by omega, by omega⟩ ⟨by omega, by omega⟩ (fun c10 => ?_) (fun c10 => ?_)
        · refine px_iinc hG dX5_isPlain_22 (Nat.le_of_ble_eq_true rfl) rfl (L2 := [some (.inr (.inr (3, 0))), some (.inl (v1_1 + 1))]) rfl ?_
          refine px_goto hG dX5_isPlain_25 (tgt := 2) (by decide) ?_
          exact ih2 (v1_1 + 1) (by omega) (by omega)
        · refine px_iconst hG dX5_isPlain_20 ?_
          exact px_zret (st := []) hG dX5_isPlain_21 rfl (by omega) rfl (fun _ => by exact ⟨_, rfl, rfl, by omega⟩)
  exact L2 _ 1 (by omega) (Nat.lt_succ_self _))
def pre_X5_isRising (as : List pm_V) (n : Nat) (σ : pm_H) : Prop := as = [.inr (.inr (3, 0))] ∧ n = 122 ∧ pm_Rng σ
def po_X5_isRising (as : List pm_V) (_ : Nat) (σ : pm_H) (r : Option pm_V) (τ : pm_H) : Prop := as = [.inr (.inr (3, 0))] → ∃ v : Int, r = some (.inl v) ∧ σ = τ ∧ ((v = 0 ∨ v = 1))
set_option maxRecDepth 20000 in
set_option maxHeartbeats 4000000 in
theorem ct_X5_isRising : pm_Ct yX5_isRising cX5_isRising 2 (some .boolean) 0 0 pre_X5_isRising po_X5_isRising := pm_sound (ini := false) (by decide +kernel) pk_X5_isRising (fun h => absurd h (by decide)) (by
  rintro as n s0 ⟨rfl, rfl, R0⟩
  refine ⟨by decide, Nat.le_of_ble_eq_true rfl, fun G hG => ?_⟩
  have hG : pm_Rules (RX5, 0, 122, cX5_isRising, -1, (fun _ => 0), false, (some .boolean), po_X5_isRising [.inr (.inr (3, 0))] 122 s0) G := hG
  show G 0 [some (.inr (.inr (3, 0))), none] [] 122 s0
  refine px_iconst hG dX5_isRising_0 ?_
  refine px_istore_n hG dX5_isRising_1 (Nat.le_of_ble_eq_true rfl) (L2 := [some (.inr (.inr (3, 0))), some (.inl 2)]) rfl ?_
  have L2 : ∀ (N : Nat) (v1_1 : Int), ((2 ≤ v1_1 ∧ v1_1 ≤ 10000)) → (10001 - v1_1).toNat < N → G 2 [some (.inr (.inr (3, 0))), some (.inl v1_1)] [] 122 s0 := by
    intro N
    induction N with
    | zero => intro v1_1 inv3 hm4; exact absurd hm4 (Nat.not_lt_zero _)
    | succ N ih2 =>
      intro v1_1 inv3 hm4
      refine px_iload_n hG dX5_isRising_2 rfl ?_
      refine px_aload_n hG dX5_isRising_3 rfl ?_
      refine gi_3_3 hG dX5_isRising_4 fl_X5_21 R0 (fun x5 ex5 lx5 ux5 => ?_)
      refine px_ic_gt hG dX5_isRising_7 (tgt := 35) (by decide) ⟨by omega, by omega⟩ ⟨by omega, by omega⟩ (fun c6 => ?_) (fun c6 => ?_)
      · refine px_iconst hG dX5_isRising_35 ?_
        exact px_zret (st := []) hG dX5_isRising_36 rfl (by omega) rfl (fun _ => by exact ⟨_, rfl, rfl, by omega⟩)
      · refine px_aload_n hG dX5_isRising_10 rfl ?_
        refine gr_3_5 hG dX5_isRising_11 fl_X5_27 R0 ?_
        refine px_iload_n hG dX5_isRising_14 rfl ?_
        refine al_4 hG dX5_isRising_15 R0 (by omega) (fun x7 ex7 lx7 ux7 => ?_)
        refine px_aload_n hG dX5_isRising_16 rfl ?_
        refine gr_3_5 hG dX5_isRising_17 fl_X5_27 R0 ?_
        refine px_iload_n hG dX5_isRising_20 rfl ?_
        refine px_iconst hG dX5_isRising_21 ?_
        refine px_isub hG dX5_isRising_22 ?_
        refine al_4 hG dX5_isRising_23 R0 (by omega) (fun x8 ex8 lx8 ux8 => ?_)
        refine px_ic_ge hG dX5_isRising_24 (tgt := 29) (by decide) ⟨by omega, by omega⟩ ⟨by omega, by omega⟩ (fun c9 => ?_) (fun c9 => ?_)
        · refine px_iinc hG dX5_isRising_29 (Nat.le_of_ble_eq_true rfl) rfl (L2 := [some (.inr (.inr (3, 0))), some (.inl (v1_1 + 1))]) rfl ?_
          refine px_goto hG dX5_isRising_32 (tgt := 2) (by decide) ?_
          exact ih2 (v1_1 + 1) (by omega) (by omega)
        · refine px_iconst hG dX5_isRising_27 ?_
          exact px_zret (st := []) hG dX5_isRising_28 rfl (by omega) rfl (fun _ => by exact ⟨_, rfl, rfl, by omega⟩)
  exact L2 _ 2 (by omega) (Nat.lt_succ_self _))
def pre_X5_hasFewRows (as : List pm_V) (n : Nat) (σ : pm_H) : Prop := as = [.inr (.inr (3, 0))] ∧ n = 122 ∧ pm_Rng σ
def po_X5_hasFewRows (as : List pm_V) (_ : Nat) (σ : pm_H) (r : Option pm_V) (τ : pm_H) : Prop := as = [.inr (.inr (3, 0))] → ∃ v : Int, r = some (.inl v) ∧ σ = τ ∧ ((v = 0 ∨ v = 1))
set_option maxRecDepth 20000 in
set_option maxHeartbeats 4000000 in
theorem ct_X5_hasFewRows : pm_Ct yX5_hasFewRows cX5_hasFewRows 3 (some .boolean) 0 0 pre_X5_hasFewRows po_X5_hasFewRows := pm_sound (ini := false) (by decide +kernel) pk_X5_hasFewRows (fun h => absurd h (by decide)) (by
  rintro as n s0 ⟨rfl, rfl, R0⟩
  refine ⟨by decide, Nat.le_of_ble_eq_true rfl, fun G hG => ?_⟩
  have hG : pm_Rules (RX5, 0, 122, cX5_hasFewRows, -1, (fun _ => 0), false, (some .boolean), po_X5_hasFewRows [.inr (.inr (3, 0))] 122 s0) G := hG
  show G 0 [some (.inr (.inr (3, 0))), none, none] [] 122 s0
  refine px_iconst hG dX5_hasFewRows_0 ?_
  refine px_istore_n hG dX5_hasFewRows_1 (Nat.le_of_ble_eq_true rfl) (L2 := [some (.inr (.inr (3, 0))), some (.inl 1), none]) rfl ?_
  refine px_iconst hG dX5_hasFewRows_2 ?_
  refine px_istore_n hG dX5_hasFewRows_3 (Nat.le_of_ble_eq_true rfl) (L2 := [some (.inr (.inr (3, 0))), some (.inl 1), some (.inl 1)]) rfl ?_
  have L4 : ∀ (N : Nat) (v1_1 : Int) (v2_2 : Int), ((1 ≤ v2_2 ∧ v2_2 ≤ 10000) ∧ (1 ≤ v1_1 ∧ v1_1 ≤ 1000000)) → (10001 - v2_2).toNat < N → G 4 [some (.inr (.inr (3, 0))), some (.inl v1_1), some (.inl v2_2)] [] 122 s0 := by
    intro N
    induction N with
    | zero => intro v1_1 v2_2 inv4 hm5; exact absurd hm5 (Nat.not_lt_zero _)
    | succ N ih3 =>
      intro v1_1 v2_2 inv4 hm5
      refine px_iload_n hG dX5_hasFewRows_4 rfl ?_
      refine px_aload_n hG dX5_hasFewRows_5 rfl ?_
      refine gi_3_3 hG dX5_hasFewRows_6 fl_X5_21 R0 (fun x6 ex6 lx6 ux6 => ?_)
      have J31_8 : ((v2_2 > x6) ∨ (¬ (v2_2 > x6) ∧ v1_1 > 100000)) → G 31 [none, some (.inl v1_1), none] [] 122 s0 := by
        intro inv9
        refine px_iload_n hG dX5_hasFewRows_31 rfl ?_
        refine px_ldc hG dX5_hasFewRows_32 cn_X5_85 ?_
        show G 34 [none, some (.inl v1_1), none] [.inl 100000, .inl v1_1] 122 s0
        refine px_ic_gt hG dX5_hasFewRows_34 (tgt := 41) (by decide) ⟨by omega, by omega⟩ ⟨by omega, by omega⟩ (fun c10 => ?_) (fun c10 => ?_)
        · refine px_iconst hG dX5_hasFewRows_41 ?_
          exact px_zret (st := []) hG dX5_hasFewRows_42 rfl (by omega) rfl (fun _ => by exact ⟨_, rfl, rfl, by omega⟩)
        · refine px_iconst hG dX5_hasFewRows_37 ?_
          refine px_goto hG dX5_hasFewRows_38 (tgt := 42) (by decide) ?_
          exact px_zret (st := []) hG dX5_hasFewRows_42 rfl (by omega) rfl (fun _ => by exact ⟨_, rfl, rfl, by omega⟩)
      refine px_ic_gt hG dX5_hasFewRows_9 (tgt := 31) (by decide) ⟨by omega, by omega⟩ ⟨by omega, by omega⟩ (fun c7 => ?_) (fun c7 => ?_)
      · refine px_weak hG (L2 := [none, some (.inl v1_1), none]) ⟨Or.inl rfl, Or.inr rfl, Or.inl rfl, trivial⟩ ?_
        exact J31_8  (by omega)
      · refine px_iload_n hG dX5_hasFewRows_12 rfl ?_
        refine px_ldc hG dX5_hasFewRows_13 cn_X5_85 ?_
        show G 15 [some (.inr (.inr (3, 0))), some (.inl v1_1), some (.inl v2_2)] [.inl 100000, .inl v1_1] 122 s0
        refine px_ic_gt hG dX5_hasFewRows_15 (tgt := 31) (by decide) ⟨by omega, by omega⟩ ⟨by omega, by omega⟩ (fun c11 => ?_) (fun c11 => ?_)
        · refine px_weak hG (L2 := [none, some (.inl v1_1), none]) ⟨Or.inl rfl, Or.inr rfl, Or.inl rfl, trivial⟩ ?_
          exact J31_8  (by omega)
        · refine px_iload_n hG dX5_hasFewRows_18 rfl ?_
          refine px_aload_n hG dX5_hasFewRows_19 rfl ?_
          refine gi_3_1 hG dX5_hasFewRows_20 fl_X5_15 R0 (fun x12 ex12 lx12 ux12 => ?_)
          refine px_imul hG dX5_hasFewRows_23 ?_
          have hmul := pm_mul_bd (a := v1_1) (b := x12) (A := 100000) (B := 10) (by omega) (by omega)
          have hmul1 := Int.mul_pos (a := v1_1) (b := x12) (by omega) (by omega)
          refine px_istore_n hG dX5_hasFewRows_24 (Nat.le_of_ble_eq_true rfl) (L2 := [some (.inr (.inr (3, 0))), some (.inl (v1_1 * x12)), some (.inl v2_2)]) rfl ?_
          refine px_iinc hG dX5_hasFewRows_25 (Nat.le_of_ble_eq_true rfl) rfl (L2 := [some (.inr (.inr (3, 0))), some (.inl (v1_1 * x12)), some (.inl (v2_2 + 1))]) rfl ?_
          refine px_goto hG dX5_hasFewRows_28 (tgt := 4) (by decide) ?_
          exact ih3 (v1_1 * x12) (v2_2 + 1) (⟨by omega, by omega⟩) (by omega)
  exact L4 _ 1 1 (⟨by omega, by omega⟩) (Nat.lt_succ_self _))
def pre_X5_rowsLikeIt (as : List pm_V) (n : Nat) (σ : pm_H) : Prop := as = [.inr (.inr (3, 0))] ∧ n = 122 ∧ pm_Rng σ
def po_X5_rowsLikeIt (as : List pm_V) (_ : Nat) (σ : pm_H) (r : Option pm_V) (τ : pm_H) : Prop := as = [.inr (.inr (3, 0))] → ∃ v : Int, r = some (.inr (.inl v)) ∧ σ = τ
set_option maxRecDepth 20000 in
set_option maxHeartbeats 4000000 in
theorem ct_X5_rowsLikeIt : pm_Ct yX5_rowsLikeIt cX5_rowsLikeIt 6 (some .long) 1 0 pre_X5_rowsLikeIt po_X5_rowsLikeIt := pm_sound (ini := false) (by decide +kernel) pk_X5_rowsLikeIt (fun h => absurd h (by decide)) (by
  rintro as n s0 ⟨rfl, rfl, R0⟩
  refine ⟨by decide, Nat.le_of_ble_eq_true rfl, fun G hG => ?_⟩
  have hG : pm_Rules (RX5, 1, 122, cX5_rowsLikeIt, -1, (fun _ => 0), false, (some .long), po_X5_rowsLikeIt [.inr (.inr (3, 0))] 122 s0) G := hG
  show G 0 [some (.inr (.inr (3, 0))), none, none, none, none, none] [] 122 s0
  refine px_lconst hG dX5_rowsLikeIt_0 ?_
  show G 1 [some (.inr (.inr (3, 0))), none, none, none, none, none] [.inr (.inl 1)] 122 s0
  refine px_lstore_n hG dX5_rowsLikeIt_1 (Nat.le_of_ble_eq_true rfl) (L2 := [some (.inr (.inr (3, 0))), some (.inr (.inl 1)), none, none, none, none]) rfl ?_
  refine px_iconst hG dX5_rowsLikeIt_2 ?_
  refine px_istore_n hG dX5_rowsLikeIt_3 (Nat.le_of_ble_eq_true rfl) (L2 := [some (.inr (.inr (3, 0))), some (.inr (.inl 1)), none, some (.inl 0), none, none]) rfl ?_
  refine px_iconst hG dX5_rowsLikeIt_4 ?_
  refine px_istore hG dX5_rowsLikeIt_5 (Nat.le_of_ble_eq_true rfl) (L2 := [some (.inr (.inr (3, 0))), some (.inr (.inl 1)), none, some (.inl 0), some (.inl 1), none]) rfl ?_
  have L7 : ∀ (N : Nat) (v1_1 : Int) (v3_2 : Int) (v4_3 : Int), ((1 ≤ v4_3 ∧ v4_3 ≤ 10000)) → (10001 - v4_3).toNat < N → G 7 [some (.inr (.inr (3, 0))), some (.inr (.inl v1_1)), none, some (.inl v3_2), some (.inl v4_3), none] [] 122 s0 := by
    intro N
    induction N with
    | zero => intro v1_1 v3_2 v4_3 inv5 hm6; exact absurd hm6 (Nat.not_lt_zero _)
    | succ N ih4 =>
      intro v1_1 v3_2 v4_3 inv5 hm6
      refine px_iload hG dX5_rowsLikeIt_7 rfl ?_
      refine px_aload_n hG dX5_rowsLikeIt_9 rfl ?_
      refine gi_3_3 hG dX5_rowsLikeIt_10 fl_X5_21 R0 (fun x7 ex7 lx7 ux7 => ?_)
      refine px_ic_gt hG dX5_rowsLikeIt_13 (tgt := 81) (by decide) ⟨by omega, by omega⟩ ⟨by omega, by omega⟩ (fun c8 => ?_) (fun c8 => ?_)
      · refine px_lload_n hG dX5_rowsLikeIt_81 rfl ?_
        exact px_lret (st := []) hG dX5_rowsLikeIt_82 rfl rfl (fun _ => by exact ⟨_, rfl, rfl⟩)
      · refine px_aload_n hG dX5_rowsLikeIt_16 rfl ?_
        refine gr_3_7 hG dX5_rowsLikeIt_17 fl_X5_34 R0 ?_
        refine px_iload hG dX5_rowsLikeIt_20 rfl ?_
        refine al_6 hG dX5_rowsLikeIt_22 R0 (by omega) (fun x9 ex9 lx9 ux9 => ?_)
        refine px_istore hG dX5_rowsLikeIt_23 (Nat.le_of_ble_eq_true rfl) (L2 := [some (.inr (.inr (3, 0))), some (.inr (.inl v1_1)), none, some (.inl v3_2), some (.inl v4_3), some (.inl x9)]) rfl ?_
        have L25 : ∀ (N : Nat) (v5_10 : Int), ((-10000 ≤ v5_10 ∧ v5_10 ≤ x9)) → (v5_10 + 10001).toNat < N → G 25 [some (.inr (.inr (3, 0))), some (.inr (.inl v1_1)), none, some (.inl v3_2), some (.inl v4_3), some (.inl v5_10)] [] 122 s0 := by
          intro N
          induction N with
          | zero => intro v5_10 inv12 hm13; exact absurd hm13 (Nat.not_lt_zero _)
          | succ N ih11 =>
            intro v5_10 inv12 hm13
            refine px_iload hG dX5_rowsLikeIt_25 rfl ?_
            refine px_iconst hG dX5_rowsLikeIt_27 ?_
            have J49_15 : ((v5_10 ≤ 1) ∨ (¬ (v5_10 ≤ 1))) → G 49 [some (.inr (.inr (3, 0))), some (.inr (.inl v1_1)), none, some (.inl v3_2), some (.inl v4_3), some (.inl v5_10)] [] 122 s0 := by
              intro inv16
              refine px_lload_n hG dX5_rowsLikeIt_49 rfl ?_
              refine px_aload_n hG dX5_rowsLikeIt_50 rfl ?_
              refine gr_3_7 hG dX5_rowsLikeIt_51 fl_X5_34 R0 ?_
              refine px_iload hG dX5_rowsLikeIt_54 rfl ?_
              refine al_6 hG dX5_rowsLikeIt_56 R0 (by omega) (fun x17 ex17 lx17 ux17 => ?_)
              refine px_iload hG dX5_rowsLikeIt_57 rfl ?_
              refine px_isub hG dX5_rowsLikeIt_59 ?_
              refine px_iconst hG dX5_rowsLikeIt_60 ?_
              refine px_iadd hG dX5_rowsLikeIt_61 ?_
              refine px_i2l hG dX5_rowsLikeIt_62 ⟨by omega, by omega⟩ ?_
              refine px_lmul hG dX5_rowsLikeIt_63 ?_
              refine px_lstore_n hG dX5_rowsLikeIt_64 (Nat.le_of_ble_eq_true rfl) (L2 := [some (.inr (.inr (3, 0))), some (.inr (.inl (v1_1 * ((x17 - v5_10) + 1)))), none, some (.inl v3_2), some (.inl v4_3), some (.inl v5_10)]) rfl ?_
              refine px_iload_n hG dX5_rowsLikeIt_65 rfl ?_
              refine px_aload_n hG dX5_rowsLikeIt_66 rfl ?_
              refine gr_3_8 hG dX5_rowsLikeIt_67 fl_X5_37 R0 ?_
              refine px_iload hG dX5_rowsLikeIt_70 rfl ?_
              refine al_7 hG dX5_rowsLikeIt_72 R0 (by omega) (fun x18 ex18 lx18 ux18 => ?_)
              refine px_ior hG dX5_rowsLikeIt_73 ?_
              generalize hx19 : pm_ior v3_2 x18 = x19
              have bx19 := pm_ior_in v3_2 x18 x19 hx19
              refine px_istore_n hG dX5_rowsLikeIt_74 (Nat.le_of_ble_eq_true rfl) (L2 := [some (.inr (.inr (3, 0))), some (.inr (.inl (v1_1 * ((x17 - v5_10) + 1)))), none, some (.inl x19), some (.inl v4_3), some (.inl v5_10)]) rfl ?_
              refine px_iinc hG dX5_rowsLikeIt_75 (Nat.le_of_ble_eq_true rfl) rfl (L2 := [some (.inr (.inr (3, 0))), some (.inr (.inl (v1_1 * ((x17 - v5_10) + 1)))), none, some (.inl x19), some (.inl (v4_3 + 1)), some (.inl v5_10)]) rfl ?_
              refine px_goto hG dX5_rowsLikeIt_78 (tgt := 7) (by decide) ?_
              refine px_weak hG (L2 := [some (.inr (.inr (3, 0))), some (.inr (.inl (v1_1 * ((x17 - v5_10) + 1)))), none, some (.inl x19), some (.inl (v4_3 + 1)), none]) ⟨Or.inr rfl, Or.inr rfl, Or.inr rfl, Or.inr rfl, Or.inr rfl, Or.inl rfl, trivial⟩ ?_
              exact ih4 (v1_1 * ((x17 - v5_10) + 1)) x19 (v4_3 + 1) (by omega) (by omega)
            refine px_ic_le hG dX5_rowsLikeIt_28 (tgt := 49) (by decide) ⟨by omega, by omega⟩ ⟨by omega, by omega⟩ (fun c14 => ?_) (fun c14 => ?_)
            · exact J49_15  (by omega)
            · refine px_aload_n hG dX5_rowsLikeIt_31 rfl ?_
              refine px_iload_n hG dX5_rowsLikeIt_32 rfl ?_
              refine px_iload hG dX5_rowsLikeIt_33 rfl ?_
              refine px_iconst hG dX5_rowsLikeIt_35 ?_
              refine px_isub hG dX5_rowsLikeIt_36 ?_
              refine jv2 hG dX5_rowsLikeIt_37 ct_X5_isFree lk_X5_61 ⟨rfl, rfl⟩ (by decide) ⟨Nat.le_of_ble_eq_true rfl, Nat.le_of_ble_eq_true rfl, Nat.le_of_ble_eq_true rfl⟩ (Nat.le_of_ble_eq_true rfl) ⟨v3_2, (v5_10 - 1), rfl, rfl, R0⟩ (fun r20 t21 pr20 => ?_)
              obtain ⟨x22, rfl, rfl, br20⟩ := pr20 _ _ rfl
              show G 40 [some (.inr (.inr (3, 0))), some (.inr (.inl v1_1)), none, some (.inl v3_2), some (.inl v4_3), some (.inl v5_10)] [.inl x22] 122 s0
              refine px_if_ne hG dX5_rowsLikeIt_40 (tgt := 49) (by decide) ⟨by omega, by omega⟩ (fun c23 => ?_) (fun c23 => ?_)
              · exact J49_15  (by omega)
              · refine px_iinc hG dX5_rowsLikeIt_43 (Nat.le_of_ble_eq_true rfl) rfl (L2 := [some (.inr (.inr (3, 0))), some (.inr (.inl v1_1)), none, some (.inl v3_2), some (.inl v4_3), some (.inl (v5_10 + -1))]) rfl ?_
                refine px_goto hG dX5_rowsLikeIt_46 (tgt := 25) (by decide) ?_
                exact ih11 (v5_10 + -1) (by omega) (by omega)
        exact L25 _ x9 (by omega) (Nat.lt_succ_self _)
  exact L7 _ 1 0 1 (by omega) (Nat.lt_succ_self _))
def pre_X5_ordersOfWishes (as : List pm_V) (n : Nat) (σ : pm_H) : Prop := as = [.inr (.inr (3, 0))] ∧ n = 122 ∧ pm_Rng σ
def po_X5_ordersOfWishes (as : List pm_V) (_ : Nat) (σ : pm_H) (r : Option pm_V) (τ : pm_H) : Prop := as = [.inr (.inr (3, 0))] → ∃ v : Int, r = some (.inr (.inl v)) ∧ σ = τ
set_option maxRecDepth 20000 in
set_option maxHeartbeats 4000000 in
theorem ct_X5_ordersOfWishes : pm_Ct yX5_ordersOfWishes cX5_ordersOfWishes 6 (some .long) 0 0 pre_X5_ordersOfWishes po_X5_ordersOfWishes := pm_sound (ini := false) (by decide +kernel) pk_X5_ordersOfWishes (fun h => absurd h (by decide)) (by
  rintro as n s0 ⟨rfl, rfl, R0⟩
  refine ⟨by decide, Nat.le_of_ble_eq_true rfl, fun G hG => ?_⟩
  have hG : pm_Rules (RX5, 0, 122, cX5_ordersOfWishes, -1, (fun _ => 0), false, (some .long), po_X5_ordersOfWishes [.inr (.inr (3, 0))] 122 s0) G := hG
  show G 0 [some (.inr (.inr (3, 0))), none, none, none, none, none] [] 122 s0
  refine px_lconst hG dX5_ordersOfWishes_0 ?_
  show G 1 [some (.inr (.inr (3, 0))), none, none, none, none, none] [.inr (.inl 1)] 122 s0
  refine px_lstore_n hG dX5_ordersOfWishes_1 (Nat.le_of_ble_eq_true rfl) (L2 := [some (.inr (.inr (3, 0))), some (.inr (.inl 1)), none, none, none, none]) rfl ?_
  refine px_iconst hG dX5_ordersOfWishes_2 ?_
  refine px_istore_n hG dX5_ordersOfWishes_3 (Nat.le_of_ble_eq_true rfl) (L2 := [some (.inr (.inr (3, 0))), some (.inr (.inl 1)), none, some (.inl 1), none, none]) rfl ?_
  have L4 : ∀ (N : Nat) (v1_1 : Int) (v3_2 : Int), ((1 ≤ v3_2 ∧ v3_2 ≤ 10000)) → (10001 - v3_2).toNat < N → G 4 [some (.inr (.inr (3, 0))), some (.inr (.inl v1_1)), none, some (.inl v3_2), none, none] [] 122 s0 := by
    intro N
    induction N with
    | zero => intro v1_1 v3_2 inv4 hm5; exact absurd hm5 (Nat.not_lt_zero _)
    | succ N ih3 =>
      intro v1_1 v3_2 inv4 hm5
      refine px_iload_n hG dX5_ordersOfWishes_4 rfl ?_
      refine px_aload_n hG dX5_ordersOfWishes_5 rfl ?_
      refine gi_3_3 hG dX5_ordersOfWishes_6 fl_X5_21 R0 (fun x6 ex6 lx6 ux6 => ?_)
      refine px_ic_gt hG dX5_ordersOfWishes_9 (tgt := 64) (by decide) ⟨by omega, by omega⟩ ⟨by omega, by omega⟩ (fun c7 => ?_) (fun c7 => ?_)
      · refine px_lload_n hG dX5_ordersOfWishes_64 rfl ?_
        exact px_lret (st := []) hG dX5_ordersOfWishes_65 rfl rfl (fun _ => by exact ⟨_, rfl, rfl⟩)
      · refine px_iconst hG dX5_ordersOfWishes_12 ?_
        refine px_istore hG dX5_ordersOfWishes_13 (Nat.le_of_ble_eq_true rfl) (L2 := [some (.inr (.inr (3, 0))), some (.inr (.inl v1_1)), none, some (.inl v3_2), some (.inl 1), none]) rfl ?_
        refine px_iconst hG dX5_ordersOfWishes_15 ?_
        refine px_istore hG dX5_ordersOfWishes_16 (Nat.le_of_ble_eq_true rfl) (L2 := [some (.inr (.inr (3, 0))), some (.inr (.inl v1_1)), none, some (.inl v3_2), some (.inl 1), some (.inl 1)]) rfl ?_
        have L18 : ∀ (N : Nat) (v4_8 : Int) (v5_9 : Int), ((1 ≤ v4_8 ∧ v4_8 ≤ 10000) ∧ (1 ≤ v5_9 ∧ v5_9 ≤ 10000) ∧ (1 ≤ v4_8 ∧ v4_8 ≤ v5_9 ∧ v5_9 ≤ 11)) → (10001 - v5_9).toNat < N → G 18 [some (.inr (.inr (3, 0))), some (.inr (.inl v1_1)), none, some (.inl v3_2), some (.inl v4_8), some (.inl v5_9)] [] 122 s0 := by
          intro N
          induction N with
          | zero => intro v4_8 v5_9 inv11 hm12; exact absurd hm12 (Nat.not_lt_zero _)
          | succ N ih10 =>
            intro v4_8 v5_9 inv11 hm12
            refine px_iload hG dX5_ordersOfWishes_18 rfl ?_
            refine px_iload_n hG dX5_ordersOfWishes_20 rfl ?_
            have J49_14 : ((v5_9 ≥ v3_2)) → G 49 [some (.inr (.inr (3, 0))), some (.inr (.inl v1_1)), none, some (.inl v3_2), some (.inl v4_8), none] [] 122 s0 := by
              intro inv15
              refine px_lload_n hG dX5_ordersOfWishes_49 rfl ?_
              refine px_iload_n hG dX5_ordersOfWishes_50 rfl ?_
              refine px_i2l hG dX5_ordersOfWishes_51 ⟨by omega, by omega⟩ ?_
              refine px_lmul hG dX5_ordersOfWishes_52 ?_
              refine px_iload hG dX5_ordersOfWishes_53 rfl ?_
              refine px_i2l hG dX5_ordersOfWishes_55 ⟨by omega, by omega⟩ ?_
              refine px_ldiv hG dX5_ordersOfWishes_56 ⟨by omega, by omega⟩ (fun z16 bz16 => ?_)
              refine px_lstore_n hG dX5_ordersOfWishes_57 (Nat.le_of_ble_eq_true rfl) (L2 := [some (.inr (.inr (3, 0))), some (.inr (.inl z16)), none, some (.inl v3_2), some (.inl v4_8), none]) rfl ?_
              refine px_iinc hG dX5_ordersOfWishes_58 (Nat.le_of_ble_eq_true rfl) rfl (L2 := [some (.inr (.inr (3, 0))), some (.inr (.inl z16)), none, some (.inl (v3_2 + 1)), some (.inl v4_8), none]) rfl ?_
              refine px_goto hG dX5_ordersOfWishes_61 (tgt := 4) (by decide) ?_
              refine px_weak hG (L2 := [some (.inr (.inr (3, 0))), some (.inr (.inl z16)), none, some (.inl (v3_2 + 1)), none, none]) ⟨Or.inr rfl, Or.inr rfl, Or.inr rfl, Or.inr rfl, Or.inl rfl, Or.inr rfl, trivial⟩ ?_
              exact ih3 z16 (v3_2 + 1) (by omega) (by omega)
            refine px_ic_ge hG dX5_ordersOfWishes_21 (tgt := 49) (by decide) ⟨by omega, by omega⟩ ⟨by omega, by omega⟩ (fun c13 => ?_) (fun c13 => ?_)
            · refine px_weak hG (L2 := [some (.inr (.inr (3, 0))), some (.inr (.inl v1_1)), none, some (.inl v3_2), some (.inl v4_8), none]) ⟨Or.inr rfl, Or.inr rfl, Or.inr rfl, Or.inr rfl, Or.inr rfl, Or.inl rfl, trivial⟩ ?_
              exact J49_14  (by omega)
            · refine px_aload_n hG dX5_ordersOfWishes_24 rfl ?_
              refine gr_3_5 hG dX5_ordersOfWishes_25 fl_X5_27 R0 ?_
              refine px_iload hG dX5_ordersOfWishes_28 rfl ?_
              refine al_4 hG dX5_ordersOfWishes_30 R0 (by omega) (fun x17 ex17 lx17 ux17 => ?_)
              refine px_aload_n hG dX5_ordersOfWishes_31 rfl ?_
              refine gr_3_5 hG dX5_ordersOfWishes_32 fl_X5_27 R0 ?_
              refine px_iload_n hG dX5_ordersOfWishes_35 rfl ?_
              refine al_4 hG dX5_ordersOfWishes_36 R0 (by omega) (fun x18 ex18 lx18 ux18 => ?_)
              refine px_ic_ne hG dX5_ordersOfWishes_37 (tgt := 43) (by decide) ⟨by omega, by omega⟩ ⟨by omega, by omega⟩ (fun c19 => ?_) (fun c19 => ?_)
              · refine px_iinc hG dX5_ordersOfWishes_43 (Nat.le_of_ble_eq_true rfl) rfl (L2 := [some (.inr (.inr (3, 0))), some (.inr (.inl v1_1)), none, some (.inl v3_2), some (.inl v4_8), some (.inl (v5_9 + 1))]) rfl ?_
                refine px_goto hG dX5_ordersOfWishes_46 (tgt := 18) (by decide) ?_
                exact ih10 v4_8 (v5_9 + 1) (⟨by omega, by omega, by omega⟩) (by omega)
              · refine px_iinc hG dX5_ordersOfWishes_40 (Nat.le_of_ble_eq_true rfl) rfl (L2 := [some (.inr (.inr (3, 0))), some (.inr (.inl v1_1)), none, some (.inl v3_2), some (.inl (v4_8 + 1)), some (.inl v5_9)]) rfl ?_
                refine px_iinc hG dX5_ordersOfWishes_43 (Nat.le_of_ble_eq_true rfl) rfl (L2 := [some (.inr (.inr (3, 0))), some (.inr (.inl v1_1)), none, some (.inl v3_2), some (.inl (v4_8 + 1)), some (.inl (v5_9 + 1))]) rfl ?_
                refine px_goto hG dX5_ordersOfWishes_46 (tgt := 18) (by decide) ?_
                exact ih10 (v4_8 + 1) (v5_9 + 1) (⟨by omega, by omega, by omega⟩) (by omega)
        exact L18 _ 1 1 (⟨by omega, by omega, by omega⟩) (Nat.lt_succ_self _)
  exact L4 _ 1 1 (by omega) (Nat.lt_succ_self _))
def pre_X5_wishesUpTo (as : List pm_V) (n : Nat) (σ : pm_H) : Prop := ∃ pl : Int, as = [.inr (.inr (3, 0)), .inl pl] ∧ n = 122 ∧ pm_Rng σ ∧ (pm_in pl)
def po_X5_wishesUpTo (as : List pm_V) (_ : Nat) (σ : pm_H) (r : Option pm_V) (τ : pm_H) : Prop := ∀ pl : Int, as = [.inr (.inr (3, 0)), .inl pl] → ∃ v : Int, r = some (.inl v) ∧ σ = τ ∧ (0 ≤ v ∧ v ≤ 10)
set_option maxRecDepth 20000 in
set_option maxHeartbeats 4000000 in
theorem ct_X5_wishesUpTo : pm_Ct yX5_wishesUpTo cX5_wishesUpTo 4 (some .int) 0 0 pre_X5_wishesUpTo po_X5_wishesUpTo := pm_sound (ini := false) (by decide +kernel) pk_X5_wishesUpTo (fun h => absurd h (by decide)) (by
  rintro as n s0 ⟨pl, rfl, rfl, R0, hpre⟩
  refine ⟨by decide, Nat.le_of_ble_eq_true rfl, fun G hG => ?_⟩
  have hG : pm_Rules (RX5, 0, 122, cX5_wishesUpTo, -1, (fun _ => 0), false, (some .int), po_X5_wishesUpTo [.inr (.inr (3, 0)), .inl pl] 122 s0) G := hG
  show G 0 [some (.inr (.inr (3, 0))), some (.inl pl), none, none] [] 122 s0
  refine px_iconst hG dX5_wishesUpTo_0 ?_
  refine px_istore_n hG dX5_wishesUpTo_1 (Nat.le_of_ble_eq_true rfl) (L2 := [some (.inr (.inr (3, 0))), some (.inl pl), some (.inl 0), none]) rfl ?_
  refine px_iconst hG dX5_wishesUpTo_2 ?_
  refine px_istore_n hG dX5_wishesUpTo_3 (Nat.le_of_ble_eq_true rfl) (L2 := [some (.inr (.inr (3, 0))), some (.inl pl), some (.inl 0), some (.inl 1)]) rfl ?_
  have L4 : ∀ (N : Nat) (v2_1 : Int) (v3_2 : Int), ((0 ≤ v2_1 ∧ v2_1 ≤ 10000) ∧ (1 ≤ v3_2 ∧ v3_2 ≤ 10000) ∧ (0 ≤ v2_1 ∧ v2_1 ≤ v3_2 - 1 ∧ v3_2 ≤ 11)) → (10001 - v3_2).toNat < N → G 4 [some (.inr (.inr (3, 0))), some (.inl pl), some (.inl v2_1), some (.inl v3_2)] [] 122 s0 := by
    intro N
    induction N with
    | zero => intro v2_1 v3_2 inv4 hm5; exact absurd hm5 (Nat.not_lt_zero _)
    | succ N ih3 =>
      intro v2_1 v3_2 inv4 hm5
      refine px_iload_n hG dX5_wishesUpTo_4 rfl ?_
      refine px_aload_n hG dX5_wishesUpTo_5 rfl ?_
      refine gi_3_3 hG dX5_wishesUpTo_6 fl_X5_21 R0 (fun x6 ex6 lx6 ux6 => ?_)
      refine px_ic_gt hG dX5_wishesUpTo_9 (tgt := 31) (by decide) ⟨by omega, by omega⟩ ⟨by omega, by omega⟩ (fun c7 => ?_) (fun c7 => ?_)
      · refine px_iload_n hG dX5_wishesUpTo_31 rfl ?_
        exact px_iret (st := []) hG dX5_wishesUpTo_32 rfl rfl (fun pl_1 ee => by cases ee; exact ⟨_, rfl, rfl, by omega⟩)
      · refine px_aload_n hG dX5_wishesUpTo_12 rfl ?_
        refine gr_3_5 hG dX5_wishesUpTo_13 fl_X5_27 R0 ?_
        refine px_iload_n hG dX5_wishesUpTo_16 rfl ?_
        refine al_4 hG dX5_wishesUpTo_17 R0 (by omega) (fun x8 ex8 lx8 ux8 => ?_)
        refine px_iload_n hG dX5_wishesUpTo_18 rfl ?_
        refine px_ic_gt hG dX5_wishesUpTo_19 (tgt := 25) (by decide) ⟨by omega, by omega⟩ ⟨by omega, by omega⟩ (fun c9 => ?_) (fun c9 => ?_)
        · refine px_iinc hG dX5_wishesUpTo_25 (Nat.le_of_ble_eq_true rfl) rfl (L2 := [some (.inr (.inr (3, 0))), some (.inl pl), some (.inl v2_1), some (.inl (v3_2 + 1))]) rfl ?_
          refine px_goto hG dX5_wishesUpTo_28 (tgt := 4) (by decide) ?_
          exact ih3 v2_1 (v3_2 + 1) (⟨by omega, by omega, by omega⟩) (by omega)
        · refine px_iinc hG dX5_wishesUpTo_22 (Nat.le_of_ble_eq_true rfl) rfl (L2 := [some (.inr (.inr (3, 0))), some (.inl pl), some (.inl (v2_1 + 1)), some (.inl v3_2)]) rfl ?_
          refine px_iinc hG dX5_wishesUpTo_25 (Nat.le_of_ble_eq_true rfl) rfl (L2 := [some (.inr (.inr (3, 0))), some (.inl pl), some (.inl (v2_1 + 1)), some (.inl (v3_2 + 1))]) rfl ?_
          refine px_goto hG dX5_wishesUpTo_28 (tgt := 4) (by decide) ?_
          exact ih3 (v2_1 + 1) (v3_2 + 1) (⟨by omega, by omega, by omega⟩) (by omega)
  exact L4 _ 0 1 (⟨by omega, by omega, by omega⟩) (Nat.lt_succ_self _))
def pre_X5_cutBits (as : List pm_V) (n : Nat) (σ : pm_H) : Prop := as = [.inr (.inr (3, 0))] ∧ n = 122 ∧ pm_Rng σ
def po_X5_cutBits (as : List pm_V) (_ : Nat) (σ : pm_H) (r : Option pm_V) (τ : pm_H) : Prop := as = [.inr (.inr (3, 0))] → ∃ v : Int, r = some (.inl v) ∧ σ = τ ∧ (pm_in v)
set_option maxRecDepth 20000 in
set_option maxHeartbeats 4000000 in
theorem ct_X5_cutBits : pm_Ct yX5_cutBits cX5_cutBits 3 (some .int) 1 0 pre_X5_cutBits po_X5_cutBits := pm_sound (ini := false) (by decide +kernel) pk_X5_cutBits (fun h => absurd h (by decide)) (by
  rintro as n s0 ⟨rfl, rfl, R0⟩
  refine ⟨by decide, Nat.le_of_ble_eq_true rfl, fun G hG => ?_⟩
  have hG : pm_Rules (RX5, 1, 122, cX5_cutBits, -1, (fun _ => 0), false, (some .int), po_X5_cutBits [.inr (.inr (3, 0))] 122 s0) G := hG
  show G 0 [some (.inr (.inr (3, 0))), none, none] [] 122 s0
  refine px_iconst hG dX5_cutBits_0 ?_
  refine px_istore_n hG dX5_cutBits_1 (Nat.le_of_ble_eq_true rfl) (L2 := [some (.inr (.inr (3, 0))), some (.inl 0), none]) rfl ?_
  refine px_iconst hG dX5_cutBits_2 ?_
  refine px_istore_n hG dX5_cutBits_3 (Nat.le_of_ble_eq_true rfl) (L2 := [some (.inr (.inr (3, 0))), some (.inl 0), some (.inl 1)]) rfl ?_
  have L4 : ∀ (N : Nat) (v1_1 : Int) (v2_2 : Int), ((1 ≤ v2_2 ∧ v2_2 ≤ 10000) ∧ (pm_in v1_1)) → (10001 - v2_2).toNat < N → G 4 [some (.inr (.inr (3, 0))), some (.inl v1_1), some (.inl v2_2)] [] 122 s0 := by
    intro N
    induction N with
    | zero => intro v1_1 v2_2 inv4 hm5; exact absurd hm5 (Nat.not_lt_zero _)
    | succ N ih3 =>
      intro v1_1 v2_2 inv4 hm5
      refine px_iload_n hG dX5_cutBits_4 rfl ?_
      refine px_aload_n hG dX5_cutBits_5 rfl ?_
      refine gi_3_1 hG dX5_cutBits_6 fl_X5_15 R0 (fun x6 ex6 lx6 ux6 => ?_)
      refine px_ic_ge hG dX5_cutBits_9 (tgt := 33) (by decide) ⟨by omega, by omega⟩ ⟨by omega, by omega⟩ (fun c7 => ?_) (fun c7 => ?_)
      · refine px_iload_n hG dX5_cutBits_33 rfl ?_
        exact px_iret (st := []) hG dX5_cutBits_34 rfl rfl (fun _ => by exact ⟨_, rfl, rfl, by omega⟩)
      · refine px_aload_n hG dX5_cutBits_12 rfl ?_
        refine px_iload_n hG dX5_cutBits_13 rfl ?_
        refine jv1 hG dX5_cutBits_14 ct_X5_wishesUpTo lk_X5_92 ⟨rfl, rfl⟩ (by decide) ⟨Nat.le_of_ble_eq_true rfl, Nat.le_of_ble_eq_true rfl, Nat.le_of_ble_eq_true rfl⟩ (Nat.le_of_ble_eq_true rfl) ⟨v2_2, rfl, rfl, R0, by omega⟩ (fun r8 t9 pr8 => ?_)
        obtain ⟨x10, rfl, rfl, br8⟩ := pr8 _ rfl
        show G 17 [some (.inr (.inr (3, 0))), some (.inl v1_1), some (.inl v2_2)] [.inl x10] 122 s0
        refine px_iload_n hG dX5_cutBits_17 rfl ?_
        have J27_13 : ∀ (j12 : Int), (pm_in j12) → G 27 [some (.inr (.inr (3, 0))), some (.inl j12), some (.inl v2_2)] [] 122 s0 := by
          intro j12 inv14
          refine px_iinc hG dX5_cutBits_27 (Nat.le_of_ble_eq_true rfl) rfl (L2 := [some (.inr (.inr (3, 0))), some (.inl j12), some (.inl (v2_2 + 1))]) rfl ?_
          refine px_goto hG dX5_cutBits_30 (tgt := 4) (by decide) ?_
          exact ih3 j12 (v2_2 + 1) (⟨by omega, by omega⟩) (by omega)
        refine px_ic_ne hG dX5_cutBits_18 (tgt := 27) (by decide) ⟨by omega, by omega⟩ ⟨by omega, by omega⟩ (fun c11 => ?_) (fun c11 => ?_)
        · exact J27_13 v1_1 (by omega)
        · refine px_iload_n hG dX5_cutBits_21 rfl ?_
          refine px_iconst hG dX5_cutBits_22 ?_
          refine px_iload_n hG dX5_cutBits_23 rfl ?_
          refine px_ishl hG dX5_cutBits_24 ?_
          generalize hx15 : pm_ishl 1 v2_2 = x15
          have bx15 := pm_ishl_in 1 v2_2 x15 hx15
          refine px_ior hG dX5_cutBits_25 ?_
          generalize hx16 : pm_ior v1_1 x15 = x16
          have bx16 := pm_ior_in v1_1 x15 x16 hx16
          refine px_istore_n hG dX5_cutBits_26 (Nat.le_of_ble_eq_true rfl) (L2 := [some (.inr (.inr (3, 0))), some (.inl x16), some (.inl v2_2)]) rfl ?_
          exact J27_13 x16 (by omega)
  exact L4 _ 0 1 (⟨by omega, by omega⟩) (Nat.lt_succ_self _))
def pre_X5_lastOfGreatestWish (as : List pm_V) (n : Nat) (σ : pm_H) : Prop := as = [.inr (.inr (3, 0))] ∧ n = 122 ∧ pm_Rng σ
def po_X5_lastOfGreatestWish (as : List pm_V) (_ : Nat) (σ : pm_H) (r : Option pm_V) (τ : pm_H) : Prop := as = [.inr (.inr (3, 0))] → ∃ v : Int, r = some (.inl v) ∧ σ = τ ∧ (1 ≤ v ∧ v ≤ 10)
set_option maxRecDepth 20000 in
set_option maxHeartbeats 4000000 in
theorem ct_X5_lastOfGreatestWish : pm_Ct yX5_lastOfGreatestWish cX5_lastOfGreatestWish 3 (some .int) 0 0 pre_X5_lastOfGreatestWish po_X5_lastOfGreatestWish := pm_sound (ini := false) (by decide +kernel) pk_X5_lastOfGreatestWish (fun h => absurd h (by decide)) (by
  rintro as n s0 ⟨rfl, rfl, R0⟩
  refine ⟨by decide, Nat.le_of_ble_eq_true rfl, fun G hG => ?_⟩
  have hG : pm_Rules (RX5, 0, 122, cX5_lastOfGreatestWish, -1, (fun _ => 0), false, (some .int), po_X5_lastOfGreatestWish [.inr (.inr (3, 0))] 122 s0) G := hG
  show G 0 [some (.inr (.inr (3, 0))), none, none] [] 122 s0
  refine px_iconst hG dX5_lastOfGreatestWish_0 ?_
  refine px_istore_n hG dX5_lastOfGreatestWish_1 (Nat.le_of_ble_eq_true rfl) (L2 := [some (.inr (.inr (3, 0))), some (.inl 1), none]) rfl ?_
  refine px_iconst hG dX5_lastOfGreatestWish_2 ?_
  refine px_istore_n hG dX5_lastOfGreatestWish_3 (Nat.le_of_ble_eq_true rfl) (L2 := [some (.inr (.inr (3, 0))), some (.inl 1), some (.inl 2)]) rfl ?_
  have L4 : ∀ (N : Nat) (v1_1 : Int) (v2_2 : Int), ((2 ≤ v2_2 ∧ v2_2 ≤ 10000) ∧ (1 ≤ v1_1 ∧ v1_1 ≤ 10)) → (10001 - v2_2).toNat < N → G 4 [some (.inr (.inr (3, 0))), some (.inl v1_1), some (.inl v2_2)] [] 122 s0 := by
    intro N
    induction N with
    | zero => intro v1_1 v2_2 inv4 hm5; exact absurd hm5 (Nat.not_lt_zero _)
    | succ N ih3 =>
      intro v1_1 v2_2 inv4 hm5
      refine px_iload_n hG dX5_lastOfGreatestWish_4 rfl ?_
      refine px_aload_n hG dX5_lastOfGreatestWish_5 rfl ?_
      refine gi_3_3 hG dX5_lastOfGreatestWish_6 fl_X5_21 R0 (fun x6 ex6 lx6 ux6 => ?_)
      refine px_ic_gt hG dX5_lastOfGreatestWish_9 (tgt := 35) (by decide) ⟨by omega, by omega⟩ ⟨by omega, by omega⟩ (fun c7 => ?_) (fun c7 => ?_)
      · refine px_iload_n hG dX5_lastOfGreatestWish_35 rfl ?_
        exact px_iret (st := []) hG dX5_lastOfGreatestWish_36 rfl rfl (fun _ => by exact ⟨_, rfl, rfl, by omega⟩)
      · refine px_aload_n hG dX5_lastOfGreatestWish_12 rfl ?_
        refine gr_3_5 hG dX5_lastOfGreatestWish_13 fl_X5_27 R0 ?_
        refine px_iload_n hG dX5_lastOfGreatestWish_16 rfl ?_
        refine al_4 hG dX5_lastOfGreatestWish_17 R0 (by omega) (fun x8 ex8 lx8 ux8 => ?_)
        refine px_aload_n hG dX5_lastOfGreatestWish_18 rfl ?_
        refine gr_3_5 hG dX5_lastOfGreatestWish_19 fl_X5_27 R0 ?_
        refine px_iload_n hG dX5_lastOfGreatestWish_22 rfl ?_
        refine al_4 hG dX5_lastOfGreatestWish_23 R0 (by omega) (fun x9 ex9 lx9 ux9 => ?_)
        refine px_ic_lt hG dX5_lastOfGreatestWish_24 (tgt := 29) (by decide) ⟨by omega, by omega⟩ ⟨by omega, by omega⟩ (fun c10 => ?_) (fun c10 => ?_)
        · refine px_iinc hG dX5_lastOfGreatestWish_29 (Nat.le_of_ble_eq_true rfl) rfl (L2 := [some (.inr (.inr (3, 0))), some (.inl v1_1), some (.inl (v2_2 + 1))]) rfl ?_
          refine px_goto hG dX5_lastOfGreatestWish_32 (tgt := 4) (by decide) ?_
          exact ih3 v1_1 (v2_2 + 1) (⟨by omega, by omega⟩) (by omega)
        · refine px_iload_n hG dX5_lastOfGreatestWish_27 rfl ?_
          refine px_istore_n hG dX5_lastOfGreatestWish_28 (Nat.le_of_ble_eq_true rfl) (L2 := [some (.inr (.inr (3, 0))), some (.inl v2_2), some (.inl v2_2)]) rfl ?_
          refine px_iinc hG dX5_lastOfGreatestWish_29 (Nat.le_of_ble_eq_true rfl) rfl (L2 := [some (.inr (.inr (3, 0))), some (.inl v2_2), some (.inl (v2_2 + 1))]) rfl ?_
          refine px_goto hG dX5_lastOfGreatestWish_32 (tgt := 4) (by decide) ?_
          exact ih3 v2_2 (v2_2 + 1) (⟨by omega, by omega⟩) (by omega)
  exact L4 _ 1 2 (⟨by omega, by omega⟩) (Nat.lt_succ_self _))
def pre_X5_mendWishes (as : List pm_V) (n : Nat) (σ : pm_H) : Prop := as = [.inr (.inr (3, 0))] ∧ n = 122 ∧ pm_Rng σ
def po_X5_mendWishes (as : List pm_V) (_ : Nat) (σ : pm_H) (r : Option pm_V) (τ : pm_H) : Prop := as = [.inr (.inr (3, 0))] → ∃ v : Int, r = some (.inl v) ∧ pm_Rng τ ∧ pm_Fr [(4, none)] σ τ ∧ (0 ≤ v ∧ v ≤ 10)
set_option maxRecDepth 20000 in
set_option maxHeartbeats 4000000 in
theorem ct_X5_mendWishes : pm_Ct yX5_mendWishes cX5_mendWishes 3 (some .int) 1 0 pre_X5_mendWishes po_X5_mendWishes := pm_sound (ini := false) (by decide +kernel) pk_X5_mendWishes (fun h => absurd h (by decide)) (by
  rintro as n s0 ⟨rfl, rfl, R0⟩
  refine ⟨by decide, Nat.le_of_ble_eq_true rfl, fun G hG => ?_⟩
  have hG : pm_Rules (RX5, 1, 122, cX5_mendWishes, -1, (fun _ => 0), false, (some .int), po_X5_mendWishes [.inr (.inr (3, 0))] 122 s0) G := hG
  show G 0 [some (.inr (.inr (3, 0))), none, none] [] 122 s0
  refine px_iconst hG dX5_mendWishes_0 ?_
  refine px_istore_n hG dX5_mendWishes_1 (Nat.le_of_ble_eq_true rfl) (L2 := [some (.inr (.inr (3, 0))), some (.inl 0), none]) rfl ?_
  refine px_iconst hG dX5_mendWishes_2 ?_
  refine px_istore_n hG dX5_mendWishes_3 (Nat.le_of_ble_eq_true rfl) (L2 := [some (.inr (.inr (3, 0))), some (.inl 0), some (.inl 1)]) rfl ?_
  have L4 : ∀ (N : Nat) (v1_1 : Int) (v2_2 : Int), ((1 ≤ v2_2 ∧ v2_2 ≤ 10000) ∧ (0 ≤ v1_1 ∧ v1_1 ≤ 10)) → (10001 - v2_2).toNat < N → G 4 [some (.inr (.inr (3, 0))), some (.inl v1_1), some (.inl v2_2)] [] 122 s0 := by
    intro N
    induction N with
    | zero => intro v1_1 v2_2 inv4 hm5; exact absurd hm5 (Nat.not_lt_zero _)
    | succ N ih3 =>
      intro v1_1 v2_2 inv4 hm5
      refine px_iload_n hG dX5_mendWishes_4 rfl ?_
      refine px_aload_n hG dX5_mendWishes_5 rfl ?_
      refine gi_3_1 hG dX5_mendWishes_6 fl_X5_15 R0 (fun x6 ex6 lx6 ux6 => ?_)
      have J30_8 : ((v2_2 > x6)) → G 30 [some (.inr (.inr (3, 0))), some (.inl v1_1), none] [] 122 s0 := by
        intro inv9
        refine px_iconst hG dX5_mendWishes_30 ?_
        refine px_istore_n hG dX5_mendWishes_31 (Nat.le_of_ble_eq_true rfl) (L2 := [some (.inr (.inr (3, 0))), some (.inl v1_1), some (.inl 0)]) rfl ?_
        have L32 : ∀ (N : Nat) (v2_10 : Int) (s11 : pm_H), pm_Rng s11 → pm_Fr [(4, none)] s0 s11 → s11 3 0 1 = x6 → ((0 ≤ v2_10 ∧ v2_10 ≤ 10000)) → (10001 - v2_10).toNat < N → G 32 [some (.inr (.inr (3, 0))), some (.inl v1_1), some (.inl v2_10)] [] 122 s11 := by
          intro N
          induction N with
          | zero => intro v2_10 s11 R12 F13 k15 inv16 hm17; exact absurd hm17 (Nat.not_lt_zero _)
          | succ N ih14 =>
            intro v2_10 s11 R12 F13 k15 inv16 hm17
            refine px_iload_n hG dX5_mendWishes_32 rfl ?_
            refine px_iload_n hG dX5_mendWishes_33 rfl ?_
            refine px_ic_ge hG dX5_mendWishes_34 (tgt := 53) (by decide) ⟨by omega, by omega⟩ ⟨by omega, by omega⟩ (fun c18 => ?_) (fun c18 => ?_)
            · refine px_iload_n hG dX5_mendWishes_53 rfl ?_
              exact px_iret (st := []) hG dX5_mendWishes_54 rfl rfl (fun _ => by exact ⟨_, rfl, R12, F13, by omega⟩)
            · refine px_aload_n hG dX5_mendWishes_37 rfl ?_
              refine gr_3_5 hG dX5_mendWishes_38 fl_X5_27 R12 ?_
              refine px_aload_n hG dX5_mendWishes_41 rfl ?_
              refine jv0 hG dX5_mendWishes_42 ct_X5_lastOfGreatestWish lk_X5_95 ⟨rfl, rfl⟩ (by decide) ⟨Nat.le_of_ble_eq_true rfl, Nat.le_of_ble_eq_true rfl, Nat.le_of_ble_eq_true rfl⟩ (Nat.le_of_ble_eq_true rfl) ⟨rfl, rfl, R12⟩ (fun r19 t20 pr19 => ?_)
              obtain ⟨x21, rfl, rfl, br19⟩ := pr19 rfl
              show G 45 [some (.inr (.inr (3, 0))), some (.inl v1_1), some (.inl v2_10)] [.inl x21, .inr (.inr (4, 0))] 122 s11
              refine px_iconst hG dX5_mendWishes_45 ?_
              refine as_4 hG dX5_mendWishes_46 R12 (by omega) (by omega) (fun s22 qs22 Rs22 => ?_)
              have Fs22 := pm_Fr_up (F13) qs22 (M := [(4, none)]) rfl
              have k23 : s22 3 0 1 = x6 := (pm_nec qs22 (by decide)).trans k15
              refine px_iinc hG dX5_mendWishes_47 (Nat.le_of_ble_eq_true rfl) rfl (L2 := [some (.inr (.inr (3, 0))), some (.inl v1_1), some (.inl (v2_10 + 1))]) rfl ?_
              refine px_goto hG dX5_mendWishes_50 (tgt := 32) (by decide) ?_
              exact ih14 (v2_10 + 1) s22 Rs22 Fs22 k23 (by omega) (by omega)
        exact L32 _ 0 s0 R0 pm_Fr_rf ex6 (by omega) (Nat.lt_succ_self _)
      refine px_ic_gt hG dX5_mendWishes_9 (tgt := 30) (by decide) ⟨by omega, by omega⟩ ⟨by omega, by omega⟩ (fun c7 => ?_) (fun c7 => ?_)
      · refine px_weak hG (L2 := [some (.inr (.inr (3, 0))), some (.inl v1_1), none]) ⟨Or.inr rfl, Or.inr rfl, Or.inl rfl, trivial⟩ ?_
        exact J30_8  (by omega)
      · refine px_iload_n hG dX5_mendWishes_12 rfl ?_
        refine px_iload_n hG dX5_mendWishes_13 rfl ?_
        refine px_aload_n hG dX5_mendWishes_14 rfl ?_
        refine px_iload_n hG dX5_mendWishes_15 rfl ?_
        refine jv1 hG dX5_mendWishes_16 ct_X5_wishesUpTo lk_X5_92 ⟨rfl, rfl⟩ (by decide) ⟨Nat.le_of_ble_eq_true rfl, Nat.le_of_ble_eq_true rfl, Nat.le_of_ble_eq_true rfl⟩ (Nat.le_of_ble_eq_true rfl) ⟨v2_2, rfl, rfl, R0, by omega⟩ (fun r24 t25 pr24 => ?_)
        obtain ⟨x26, rfl, rfl, br24⟩ := pr24 _ rfl
        show G 19 [some (.inr (.inr (3, 0))), some (.inl v1_1), some (.inl v2_2)] [.inl x26, .inl v2_2, .inl v1_1] 122 s0
        refine px_isub hG dX5_mendWishes_19 ?_
        refine px_max hG dX5_mendWishes_20 lm_X5_76 (Nat.le_of_ble_eq_true rfl) (Nat.le_of_ble_eq_true rfl) ⟨⟨by omega, by omega⟩, ⟨by omega, by omega⟩⟩ (fun x27 bx27 => ?_)
        refine px_istore_n hG dX5_mendWishes_23 (Nat.le_of_ble_eq_true rfl) (L2 := [some (.inr (.inr (3, 0))), some (.inl x27), some (.inl v2_2)]) rfl ?_
        refine px_iinc hG dX5_mendWishes_24 (Nat.le_of_ble_eq_true rfl) rfl (L2 := [some (.inr (.inr (3, 0))), some (.inl x27), some (.inl (v2_2 + 1))]) rfl ?_
        refine px_goto hG dX5_mendWishes_27 (tgt := 4) (by decide) ?_
        exact ih3 x27 (v2_2 + 1) (⟨by omega, by omega⟩) (by omega)
  exact L4 _ 0 1 (⟨by omega, by omega⟩) (Nat.lt_succ_self _))
