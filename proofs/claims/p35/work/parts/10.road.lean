/-! ===== Road ===== -/
def pre_X5_isFree (as : List pm_V) (n : Nat) (σ : pm_H) : Prop := ∃ full pl : Int, as = [.inr (.inr (3, 0)), .inl full, .inl pl] ∧ n = 122 ∧ pm_Rng σ
def po_X5_isFree (as : List pm_V) (_ : Nat) (σ : pm_H) (r : Option pm_V) (τ : pm_H) : Prop := ∀ full pl : Int, as = [.inr (.inr (3, 0)), .inl full, .inl pl] → ∃ v : Int, r = some (.inl v) ∧ σ = τ ∧ ((v = 0 ∨ v = 1))
set_option maxRecDepth 20000 in
set_option maxHeartbeats 4000000 in
theorem ct_X5_isFree : pm_Ct yX5_isFree cX5_isFree 3 (some .boolean) 0 0 pre_X5_isFree po_X5_isFree := pm_sound (ini := false) (by decide +kernel) pk_X5_isFree (fun h => absurd h (by decide)) (by
  rintro as n s0 ⟨full, pl, rfl, rfl, R0⟩
  refine ⟨by decide, Nat.le_of_ble_eq_true rfl, fun G hG => ?_⟩
  have hG : pm_Rules (RX5, 0, 122, cX5_isFree, -1, (fun _ => 0), false, (some .boolean), po_X5_isFree [.inr (.inr (3, 0)), .inl full, .inl pl] 122 s0) G := hG
  show G 0 [some (.inr (.inr (3, 0))), some (.inl full), some (.inl pl)] [] 122 s0
  refine px_iload_n hG dX5_isFree_0 rfl ?_
  refine px_iload_n hG dX5_isFree_1 rfl ?_
  refine px_iconst hG dX5_isFree_2 ?_
  refine px_isub hG dX5_isFree_3 ?_
  refine px_ishr hG dX5_isFree_4 ?_
  generalize hx1 : pm_ishr full (pl - 1) = x1
  have bx1 := pm_ishr_in full (pl - 1) x1 hx1
  refine px_iconst hG dX5_isFree_5 ?_
  refine px_iand hG dX5_isFree_6 ?_
  generalize hx2 : pm_iand x1 1 = x2
  have bx2 := pm_and1 hx2
  refine px_if_ne hG dX5_isFree_7 (tgt := 14) (by decide) ⟨by omega, by omega⟩ (fun c3 => ?_) (fun c3 => ?_)
  · refine px_iconst hG dX5_isFree_14 ?_
    exact px_zret (st := []) hG dX5_isFree_15 rfl (by omega) rfl (fun full_1 pl_1 ee => by cases ee; exact ⟨_, rfl, rfl, by omega⟩)
  · refine px_iconst hG dX5_isFree_10 ?_
    refine px_goto hG dX5_isFree_11 (tgt := 15) (by decide) ?_
    exact px_zret (st := []) hG dX5_isFree_15 rfl (by omega) rfl (fun full_1 pl_1 ee => by cases ee; exact ⟨_, rfl, rfl, by omega⟩))
def pre_X5_hasPlace (as : List pm_V) (n : Nat) (σ : pm_H) : Prop := ∃ pl : Int, as = [.inr (.inr (3, 0)), .inl pl] ∧ n = 122 ∧ pm_Rng σ ∧ (pm_in pl)
def po_X5_hasPlace (as : List pm_V) (_ : Nat) (σ : pm_H) (r : Option pm_V) (τ : pm_H) : Prop := ∀ pl : Int, as = [.inr (.inr (3, 0)), .inl pl] → ∃ v : Int, r = some (.inl v) ∧ σ = τ ∧ ((v = 0 ∨ v = 1) ∧ (v = 1 → 1 ≤ pl ∧ pl ≤ σ 3 0 1))
set_option maxRecDepth 20000 in
set_option maxHeartbeats 4000000 in
theorem ct_X5_hasPlace : pm_Ct yX5_hasPlace cX5_hasPlace 2 (some .boolean) 0 0 pre_X5_hasPlace po_X5_hasPlace := pm_sound (ini := false) (by decide +kernel) pk_X5_hasPlace (fun h => absurd h (by decide)) (by
  rintro as n s0 ⟨pl, rfl, rfl, R0, hpre⟩
  refine ⟨by decide, Nat.le_of_ble_eq_true rfl, fun G hG => ?_⟩
  have hG : pm_Rules (RX5, 0, 122, cX5_hasPlace, -1, (fun _ => 0), false, (some .boolean), po_X5_hasPlace [.inr (.inr (3, 0)), .inl pl] 122 s0) G := hG
  show G 0 [some (.inr (.inr (3, 0))), some (.inl pl)] [] 122 s0
  refine px_iload_n hG dX5_hasPlace_0 rfl ?_
  refine px_iconst hG dX5_hasPlace_1 ?_
  refine px_ic_lt hG dX5_hasPlace_2 (tgt := 17) (by decide) ⟨by omega, by omega⟩ ⟨by omega, by omega⟩ (fun c1 => ?_) (fun c1 => ?_)
  · refine px_iconst hG dX5_hasPlace_17 ?_
    exact px_zret (st := []) hG dX5_hasPlace_18 rfl (by omega) rfl (fun pl_1 ee => by cases ee; exact ⟨_, rfl, rfl, by omega⟩)
  · refine px_iload_n hG dX5_hasPlace_5 rfl ?_
    refine px_aload_n hG dX5_hasPlace_6 rfl ?_
    refine gi_3_1 hG dX5_hasPlace_7 fl_X5_15 R0 (fun x2 ex2 lx2 ux2 => ?_)
    refine px_ic_gt hG dX5_hasPlace_10 (tgt := 17) (by decide) ⟨by omega, by omega⟩ ⟨by omega, by omega⟩ (fun c3 => ?_) (fun c3 => ?_)
    · refine px_iconst hG dX5_hasPlace_17 ?_
      exact px_zret (st := []) hG dX5_hasPlace_18 rfl (by omega) rfl (fun pl_1 ee => by cases ee; exact ⟨_, rfl, rfl, by omega⟩)
    · refine px_iconst hG dX5_hasPlace_13 ?_
      refine px_goto hG dX5_hasPlace_14 (tgt := 18) (by decide) ?_
      exact px_zret (st := []) hG dX5_hasPlace_18 rfl (by omega) rfl (fun pl_1 ee => by cases ee; exact ⟨_, rfl, rfl, by omega⟩))
def pre_X5_hasCar (as : List pm_V) (n : Nat) (σ : pm_H) : Prop := ∃ car : Int, as = [.inr (.inr (3, 0)), .inl car] ∧ n = 122 ∧ pm_Rng σ ∧ (pm_in car)
def po_X5_hasCar (as : List pm_V) (_ : Nat) (σ : pm_H) (r : Option pm_V) (τ : pm_H) : Prop := ∀ car : Int, as = [.inr (.inr (3, 0)), .inl car] → ∃ v : Int, r = some (.inl v) ∧ σ = τ ∧ ((v = 0 ∨ v = 1) ∧ (v = 1 → 1 ≤ car ∧ car ≤ σ 3 0 3))
set_option maxRecDepth 20000 in
set_option maxHeartbeats 4000000 in
theorem ct_X5_hasCar : pm_Ct yX5_hasCar cX5_hasCar 2 (some .boolean) 0 0 pre_X5_hasCar po_X5_hasCar := pm_sound (ini := false) (by decide +kernel) pk_X5_hasCar (fun h => absurd h (by decide)) (by
  rintro as n s0 ⟨car, rfl, rfl, R0, hpre⟩
  refine ⟨by decide, Nat.le_of_ble_eq_true rfl, fun G hG => ?_⟩
  have hG : pm_Rules (RX5, 0, 122, cX5_hasCar, -1, (fun _ => 0), false, (some .boolean), po_X5_hasCar [.inr (.inr (3, 0)), .inl car] 122 s0) G := hG
  show G 0 [some (.inr (.inr (3, 0))), some (.inl car)] [] 122 s0
  refine px_iload_n hG dX5_hasCar_0 rfl ?_
  refine px_iconst hG dX5_hasCar_1 ?_
  refine px_ic_lt hG dX5_hasCar_2 (tgt := 17) (by decide) ⟨by omega, by omega⟩ ⟨by omega, by omega⟩ (fun c1 => ?_) (fun c1 => ?_)
  · refine px_iconst hG dX5_hasCar_17 ?_
    exact px_zret (st := []) hG dX5_hasCar_18 rfl (by omega) rfl (fun car_1 ee => by cases ee; exact ⟨_, rfl, rfl, by omega⟩)
  · refine px_iload_n hG dX5_hasCar_5 rfl ?_
    refine px_aload_n hG dX5_hasCar_6 rfl ?_
    refine gi_3_3 hG dX5_hasCar_7 fl_X5_21 R0 (fun x2 ex2 lx2 ux2 => ?_)
    refine px_ic_gt hG dX5_hasCar_10 (tgt := 17) (by decide) ⟨by omega, by omega⟩ ⟨by omega, by omega⟩ (fun c3 => ?_) (fun c3 => ?_)
    · refine px_iconst hG dX5_hasCar_17 ?_
      exact px_zret (st := []) hG dX5_hasCar_18 rfl (by omega) rfl (fun car_1 ee => by cases ee; exact ⟨_, rfl, rfl, by omega⟩)
    · refine px_iconst hG dX5_hasCar_13 ?_
      refine px_goto hG dX5_hasCar_14 (tgt := 18) (by decide) ?_
      exact px_zret (st := []) hG dX5_hasCar_18 rfl (by omega) rfl (fun car_1 ee => by cases ee; exact ⟨_, rfl, rfl, by omega⟩))
def pre_X5_firstFree (as : List pm_V) (n : Nat) (σ : pm_H) : Prop := ∃ full fr : Int, as = [.inr (.inr (3, 0)), .inl full, .inl fr] ∧ n = 122 ∧ pm_Rng σ ∧ (1 ≤ fr ∧ fr ≤ 10 ∧ (σ 3 0 0 = 2 → 0 ≤ σ 3 0 2 ∧ σ 3 0 2 ≤ 9))
def po_X5_firstFree (as : List pm_V) (_ : Nat) (σ : pm_H) (r : Option pm_V) (τ : pm_H) : Prop := ∀ full fr : Int, as = [.inr (.inr (3, 0)), .inl full, .inl fr] → ∃ v : Int, r = some (.inl v) ∧ σ = τ ∧ (0 ≤ v ∧ v ≤ 10)
set_option maxRecDepth 20000 in
set_option maxHeartbeats 4000000 in
theorem ct_X5_firstFree : pm_Ct yX5_firstFree cX5_firstFree 4 (some .int) 1 0 pre_X5_firstFree po_X5_firstFree := pm_sound (ini := false) (by decide +kernel) pk_X5_firstFree (fun h => absurd h (by decide)) (by
  rintro as n s0 ⟨full, fr, rfl, rfl, R0, hpre⟩
  refine ⟨by decide, Nat.le_of_ble_eq_true rfl, fun G hG => ?_⟩
  have hG : pm_Rules (RX5, 1, 122, cX5_firstFree, -1, (fun _ => 0), false, (some .int), po_X5_firstFree [.inr (.inr (3, 0)), .inl full, .inl fr] 122 s0) G := hG
  show G 0 [some (.inr (.inr (3, 0))), some (.inl full), some (.inl fr), none] [] 122 s0
  refine px_aload_n hG dX5_firstFree_0 rfl ?_
  refine gi_3_0 hG dX5_firstFree_1 fl_X5_9 R0 (fun x1 ex1 lx1 ux1 => ?_)
  refine px_iconst hG dX5_firstFree_4 ?_
  refine px_ic_ne hG dX5_firstFree_5 (tgt := 53) (by decide) ⟨by omega, by omega⟩ ⟨by omega, by omega⟩ (fun c2 => ?_) (fun c2 => ?_)
  · refine px_iload_n hG dX5_firstFree_53 rfl ?_
    refine px_istore_n hG dX5_firstFree_54 (Nat.le_of_ble_eq_true rfl) (L2 := [some (.inr (.inr (3, 0))), some (.inl full), some (.inl fr), some (.inl fr)]) rfl ?_
    have L55 : ∀ (N : Nat) (v3_3 : Int), ((fr ≤ v3_3 ∧ v3_3 ≤ 10000)) → (10001 - v3_3).toNat < N → G 55 [some (.inr (.inr (3, 0))), some (.inl full), some (.inl fr), some (.inl v3_3)] [] 122 s0 := by
      intro N
      induction N with
      | zero => intro v3_3 inv5 hm6; exact absurd hm6 (Nat.not_lt_zero _)
      | succ N ih4 =>
        intro v3_3 inv5 hm6
        refine px_iload_n hG dX5_firstFree_55 rfl ?_
        refine px_aload_n hG dX5_firstFree_56 rfl ?_
        refine gi_3_1 hG dX5_firstFree_57 fl_X5_15 R0 (fun x7 ex7 lx7 ux7 => ?_)
        refine px_ic_gt hG dX5_firstFree_60 (tgt := 80) (by decide) ⟨by omega, by omega⟩ ⟨by omega, by omega⟩ (fun c8 => ?_) (fun c8 => ?_)
        · refine px_iconst hG dX5_firstFree_80 ?_
          refine px_istore_n hG dX5_firstFree_81 (Nat.le_of_ble_eq_true rfl) (L2 := [some (.inr (.inr (3, 0))), some (.inl full), some (.inl fr), some (.inl 1)]) rfl ?_
          have L82 : ∀ (N : Nat) (v3_9 : Int), ((1 ≤ v3_9 ∧ v3_9 ≤ 10000)) → (10001 - v3_9).toNat < N → G 82 [some (.inr (.inr (3, 0))), some (.inl full), some (.inl fr), some (.inl v3_9)] [] 122 s0 := by
            intro N
            induction N with
            | zero => intro v3_9 inv11 hm12; exact absurd hm12 (Nat.not_lt_zero _)
            | succ N ih10 =>
              intro v3_9 inv11 hm12
              refine px_aload_n hG dX5_firstFree_82 rfl ?_
              refine gi_3_0 hG dX5_firstFree_83 fl_X5_9 R0 (fun x13 ex13 lx13 ux13 => ?_)
              refine px_iconst hG dX5_firstFree_86 ?_
              refine px_ic_ne hG dX5_firstFree_87 (tgt := 112) (by decide) ⟨by omega, by omega⟩ ⟨by omega, by omega⟩ (fun c14 => ?_) (fun c14 => ?_)
              · refine px_iconst hG dX5_firstFree_112 ?_
                exact px_iret (st := []) hG dX5_firstFree_113 rfl rfl (fun full_1 fr_1 ee => by cases ee; exact ⟨_, rfl, rfl, by omega⟩)
              · refine px_iload_n hG dX5_firstFree_90 rfl ?_
                refine px_iload_n hG dX5_firstFree_91 rfl ?_
                refine px_ic_ge hG dX5_firstFree_92 (tgt := 112) (by decide) ⟨by omega, by omega⟩ ⟨by omega, by omega⟩ (fun c15 => ?_) (fun c15 => ?_)
                · refine px_iconst hG dX5_firstFree_112 ?_
                  exact px_iret (st := []) hG dX5_firstFree_113 rfl rfl (fun full_1 fr_1 ee => by cases ee; exact ⟨_, rfl, rfl, by omega⟩)
                · refine px_aload_n hG dX5_firstFree_95 rfl ?_
                  refine px_iload_n hG dX5_firstFree_96 rfl ?_
                  refine px_iload_n hG dX5_firstFree_97 rfl ?_
                  refine jv2 hG dX5_firstFree_98 ct_X5_isFree lk_X5_61 ⟨rfl, rfl⟩ (by decide) ⟨Nat.le_of_ble_eq_true rfl, Nat.le_of_ble_eq_true rfl, Nat.le_of_ble_eq_true rfl⟩ (Nat.le_of_ble_eq_true rfl) ⟨full, v3_9, rfl, rfl, R0⟩ (fun r16 t17 pr16 => ?_)
                  obtain ⟨x18, rfl, rfl, br16⟩ := pr16 _ _ rfl
                  show G 101 [some (.inr (.inr (3, 0))), some (.inl full), some (.inl fr), some (.inl v3_9)] [.inl x18] 122 s0
                  refine px_if_eq hG dX5_firstFree_101 (tgt := 106) (by decide) ⟨by omega, by omega⟩ (fun c19 => ?_) (fun c19 => ?_)
                  · refine px_iinc hG dX5_firstFree_106 (Nat.le_of_ble_eq_true rfl) rfl (L2 := [some (.inr (.inr (3, 0))), some (.inl full), some (.inl fr), some (.inl (v3_9 + 1))]) rfl ?_
                    refine px_goto hG dX5_firstFree_109 (tgt := 82) (by decide) ?_
                    exact ih10 (v3_9 + 1) (by omega) (by omega)
                  · refine px_iload_n hG dX5_firstFree_104 rfl ?_
                    exact px_iret (st := []) hG dX5_firstFree_105 rfl rfl (fun full_1 fr_1 ee => by cases ee; exact ⟨_, rfl, rfl, by omega⟩)
          exact L82 _ 1 (by omega) (Nat.lt_succ_self _)
        · refine px_aload_n hG dX5_firstFree_63 rfl ?_
          refine px_iload_n hG dX5_firstFree_64 rfl ?_
          refine px_iload_n hG dX5_firstFree_65 rfl ?_
          refine jv2 hG dX5_firstFree_66 ct_X5_isFree lk_X5_61 ⟨rfl, rfl⟩ (by decide) ⟨Nat.le_of_ble_eq_true rfl, Nat.le_of_ble_eq_true rfl, Nat.le_of_ble_eq_true rfl⟩ (Nat.le_of_ble_eq_true rfl) ⟨full, v3_3, rfl, rfl, R0⟩ (fun r20 t21 pr20 => ?_)
          obtain ⟨x22, rfl, rfl, br20⟩ := pr20 _ _ rfl
          show G 69 [some (.inr (.inr (3, 0))), some (.inl full), some (.inl fr), some (.inl v3_3)] [.inl x22] 122 s0
          refine px_if_eq hG dX5_firstFree_69 (tgt := 74) (by decide) ⟨by omega, by omega⟩ (fun c23 => ?_) (fun c23 => ?_)
          · refine px_iinc hG dX5_firstFree_74 (Nat.le_of_ble_eq_true rfl) rfl (L2 := [some (.inr (.inr (3, 0))), some (.inl full), some (.inl fr), some (.inl (v3_3 + 1))]) rfl ?_
            refine px_goto hG dX5_firstFree_77 (tgt := 55) (by decide) ?_
            exact ih4 (v3_3 + 1) (by omega) (by omega)
          · refine px_iload_n hG dX5_firstFree_72 rfl ?_
            exact px_iret (st := []) hG dX5_firstFree_73 rfl rfl (fun full_1 fr_1 ee => by cases ee; exact ⟨_, rfl, rfl, by omega⟩)
    exact L55 _ fr (by omega) (Nat.lt_succ_self _)
  · refine px_aload_n hG dX5_firstFree_8 rfl ?_
    refine px_iload_n hG dX5_firstFree_9 rfl ?_
    refine px_iload_n hG dX5_firstFree_10 rfl ?_
    refine jv2 hG dX5_firstFree_11 ct_X5_isFree lk_X5_61 ⟨rfl, rfl⟩ (by decide) ⟨Nat.le_of_ble_eq_true rfl, Nat.le_of_ble_eq_true rfl, Nat.le_of_ble_eq_true rfl⟩ (Nat.le_of_ble_eq_true rfl) ⟨full, fr, rfl, rfl, R0⟩ (fun r24 t25 pr24 => ?_)
    obtain ⟨x26, rfl, rfl, br24⟩ := pr24 _ _ rfl
    show G 14 [some (.inr (.inr (3, 0))), some (.inl full), some (.inl fr), none] [.inl x26] 122 s0
    refine px_if_ne hG dX5_firstFree_14 (tgt := 53) (by decide) ⟨by omega, by omega⟩ (fun c27 => ?_) (fun c27 => ?_)
    · refine px_iload_n hG dX5_firstFree_53 rfl ?_
      refine px_istore_n hG dX5_firstFree_54 (Nat.le_of_ble_eq_true rfl) (L2 := [some (.inr (.inr (3, 0))), some (.inl full), some (.inl fr), some (.inl fr)]) rfl ?_
      have L29 : ∀ (N : Nat) (v3_28 : Int), ((fr ≤ v3_28 ∧ v3_28 ≤ 10000)) → (10001 - v3_28).toNat < N → G 55 [some (.inr (.inr (3, 0))), some (.inl full), some (.inl fr), some (.inl v3_28)] [] 122 s0 := by
        intro N
        induction N with
        | zero => intro v3_28 inv31 hm32; exact absurd hm32 (Nat.not_lt_zero _)
        | succ N ih30 =>
          intro v3_28 inv31 hm32
          refine px_iload_n hG dX5_firstFree_55 rfl ?_
          refine px_aload_n hG dX5_firstFree_56 rfl ?_
          refine gi_3_1 hG dX5_firstFree_57 fl_X5_15 R0 (fun x33 ex33 lx33 ux33 => ?_)
          refine px_ic_gt hG dX5_firstFree_60 (tgt := 80) (by decide) ⟨by omega, by omega⟩ ⟨by omega, by omega⟩ (fun c34 => ?_) (fun c34 => ?_)
          · refine px_iconst hG dX5_firstFree_80 ?_
            refine px_istore_n hG dX5_firstFree_81 (Nat.le_of_ble_eq_true rfl) (L2 := [some (.inr (.inr (3, 0))), some (.inl full), some (.inl fr), some (.inl 1)]) rfl ?_
            have L36 : ∀ (N : Nat) (v3_35 : Int), ((1 ≤ v3_35 ∧ v3_35 ≤ 10000)) → (10001 - v3_35).toNat < N → G 82 [some (.inr (.inr (3, 0))), some (.inl full), some (.inl fr), some (.inl v3_35)] [] 122 s0 := by
              intro N
              induction N with
              | zero => intro v3_35 inv38 hm39; exact absurd hm39 (Nat.not_lt_zero _)
              | succ N ih37 =>
                intro v3_35 inv38 hm39
                refine px_aload_n hG dX5_firstFree_82 rfl ?_
                refine gi_3_0 hG dX5_firstFree_83 fl_X5_9 R0 (fun x40 ex40 lx40 ux40 => ?_)
                refine px_iconst hG dX5_firstFree_86 ?_
                refine px_ic_ne hG dX5_firstFree_87 (tgt := 112) (by decide) ⟨by omega, by omega⟩ ⟨by omega, by omega⟩ (fun c41 => ?_) (fun c41 => ?_)
                · refine px_iconst hG dX5_firstFree_112 ?_
                  exact px_iret (st := []) hG dX5_firstFree_113 rfl rfl (fun full_1 fr_1 ee => by cases ee; exact ⟨_, rfl, rfl, by omega⟩)
                · refine px_iload_n hG dX5_firstFree_90 rfl ?_
                  refine px_iload_n hG dX5_firstFree_91 rfl ?_
                  refine px_ic_ge hG dX5_firstFree_92 (tgt := 112) (by decide) ⟨by omega, by omega⟩ ⟨by omega, by omega⟩ (fun c42 => ?_) (fun c42 => ?_)
                  · refine px_iconst hG dX5_firstFree_112 ?_
                    exact px_iret (st := []) hG dX5_firstFree_113 rfl rfl (fun full_1 fr_1 ee => by cases ee; exact ⟨_, rfl, rfl, by omega⟩)
                  · refine px_aload_n hG dX5_firstFree_95 rfl ?_
                    refine px_iload_n hG dX5_firstFree_96 rfl ?_
                    refine px_iload_n hG dX5_firstFree_97 rfl ?_
                    refine jv2 hG dX5_firstFree_98 ct_X5_isFree lk_X5_61 ⟨rfl, rfl⟩ (by decide) ⟨Nat.le_of_ble_eq_true rfl, Nat.le_of_ble_eq_true rfl, Nat.le_of_ble_eq_true rfl⟩ (Nat.le_of_ble_eq_true rfl) ⟨full, v3_35, rfl, rfl, R0⟩ (fun r43 t44 pr43 => ?_)
                    obtain ⟨x45, rfl, rfl, br43⟩ := pr43 _ _ rfl
                    show G 101 [some (.inr (.inr (3, 0))), some (.inl full), some (.inl fr), some (.inl v3_35)] [.inl x45] 122 s0
                    refine px_if_eq hG dX5_firstFree_101 (tgt := 106) (by decide) ⟨by omega, by omega⟩ (fun c46 => ?_) (fun c46 => ?_)
                    · refine px_iinc hG dX5_firstFree_106 (Nat.le_of_ble_eq_true rfl) rfl (L2 := [some (.inr (.inr (3, 0))), some (.inl full), some (.inl fr), some (.inl (v3_35 + 1))]) rfl ?_
                      refine px_goto hG dX5_firstFree_109 (tgt := 82) (by decide) ?_
                      exact ih37 (v3_35 + 1) (by omega) (by omega)
                    · refine px_iload_n hG dX5_firstFree_104 rfl ?_
                      exact px_iret (st := []) hG dX5_firstFree_105 rfl rfl (fun full_1 fr_1 ee => by cases ee; exact ⟨_, rfl, rfl, by omega⟩)
            exact L36 _ 1 (by omega) (Nat.lt_succ_self _)
          · refine px_aload_n hG dX5_firstFree_63 rfl ?_
            refine px_iload_n hG dX5_firstFree_64 rfl ?_
            refine px_iload_n hG dX5_firstFree_65 rfl ?_
            refine jv2 hG dX5_firstFree_66 ct_X5_isFree lk_X5_61 ⟨rfl, rfl⟩ (by decide) ⟨Nat.le_of_ble_eq_true rfl, Nat.le_of_ble_eq_true rfl, Nat.le_of_ble_eq_true rfl⟩ (Nat.le_of_ble_eq_true rfl) ⟨full, v3_28, rfl, rfl, R0⟩ (fun r47 t48 pr47 => ?_)
            obtain ⟨x49, rfl, rfl, br47⟩ := pr47 _ _ rfl
            show G 69 [some (.inr (.inr (3, 0))), some (.inl full), some (.inl fr), some (.inl v3_28)] [.inl x49] 122 s0
            refine px_if_eq hG dX5_firstFree_69 (tgt := 74) (by decide) ⟨by omega, by omega⟩ (fun c50 => ?_) (fun c50 => ?_)
            · refine px_iinc hG dX5_firstFree_74 (Nat.le_of_ble_eq_true rfl) rfl (L2 := [some (.inr (.inr (3, 0))), some (.inl full), some (.inl fr), some (.inl (v3_28 + 1))]) rfl ?_
              refine px_goto hG dX5_firstFree_77 (tgt := 55) (by decide) ?_
              exact ih30 (v3_28 + 1) (by omega) (by omega)
            · refine px_iload_n hG dX5_firstFree_72 rfl ?_
              exact px_iret (st := []) hG dX5_firstFree_73 rfl rfl (fun full_1 fr_1 ee => by cases ee; exact ⟨_, rfl, rfl, by omega⟩)
      exact L29 _ fr (by omega) (Nat.lt_succ_self _)
    · refine px_iload_n hG dX5_firstFree_17 rfl ?_
      refine px_iconst hG dX5_firstFree_18 ?_
      refine px_isub hG dX5_firstFree_19 ?_
      refine px_istore_n hG dX5_firstFree_20 (Nat.le_of_ble_eq_true rfl) (L2 := [some (.inr (.inr (3, 0))), some (.inl full), some (.inl fr), some (.inl (fr - 1))]) rfl ?_
      have L21 : ∀ (N : Nat) (v3_51 : Int), ((-10000 ≤ v3_51 ∧ v3_51 ≤ fr - 1)) → (v3_51 + 10001).toNat < N → G 21 [some (.inr (.inr (3, 0))), some (.inl full), some (.inl fr), some (.inl v3_51)] [] 122 s0 := by
        intro N
        induction N with
        | zero => intro v3_51 inv53 hm54; exact absurd hm54 (Nat.not_lt_zero _)
        | succ N ih52 =>
          intro v3_51 inv53 hm54
          refine px_iload_n hG dX5_firstFree_21 rfl ?_
          refine px_iconst hG dX5_firstFree_22 ?_
          refine px_ic_lt hG dX5_firstFree_23 (tgt := 53) (by decide) ⟨by omega, by omega⟩ ⟨by omega, by omega⟩ (fun c55 => ?_) (fun c55 => ?_)
          · refine px_iload_n hG dX5_firstFree_53 rfl ?_
            refine px_istore_n hG dX5_firstFree_54 (Nat.le_of_ble_eq_true rfl) (L2 := [some (.inr (.inr (3, 0))), some (.inl full), some (.inl fr), some (.inl fr)]) rfl ?_
            have L57 : ∀ (N : Nat) (v3_56 : Int), ((fr ≤ v3_56 ∧ v3_56 ≤ 10000)) → (10001 - v3_56).toNat < N → G 55 [some (.inr (.inr (3, 0))), some (.inl full), some (.inl fr), some (.inl v3_56)] [] 122 s0 := by
              intro N
              induction N with
              | zero => intro v3_56 inv59 hm60; exact absurd hm60 (Nat.not_lt_zero _)
              | succ N ih58 =>
                intro v3_56 inv59 hm60
                refine px_iload_n hG dX5_firstFree_55 rfl ?_
                refine px_aload_n hG dX5_firstFree_56 rfl ?_
                refine gi_3_1 hG dX5_firstFree_57 fl_X5_15 R0 (fun x61 ex61 lx61 ux61 => ?_)
                refine px_ic_gt hG dX5_firstFree_60 (tgt := 80) (by decide) ⟨by omega, by omega⟩ ⟨by omega, by omega⟩ (fun c62 => ?_) (fun c62 => ?_)
                · refine px_iconst hG dX5_firstFree_80 ?_
                  refine px_istore_n hG dX5_firstFree_81 (Nat.le_of_ble_eq_true rfl) (L2 := [some (.inr (.inr (3, 0))), some (.inl full), some (.inl fr), some (.inl 1)]) rfl ?_
                  have L64 : ∀ (N : Nat) (v3_63 : Int), ((1 ≤ v3_63 ∧ v3_63 ≤ 10000)) → (10001 - v3_63).toNat < N → G 82 [some (.inr (.inr (3, 0))), some (.inl full), some (.inl fr), some (.inl v3_63)] [] 122 s0 := by
                    intro N
                    induction N with
                    | zero => intro v3_63 inv66 hm67; exact absurd hm67 (Nat.not_lt_zero _)
                    | succ N ih65 =>
                      intro v3_63 inv66 hm67
                      refine px_aload_n hG dX5_firstFree_82 rfl ?_
                      refine gi_3_0 hG dX5_firstFree_83 fl_X5_9 R0 (fun x68 ex68 lx68 ux68 => ?_)
                      refine px_iconst hG dX5_firstFree_86 ?_
                      refine px_ic_ne hG dX5_firstFree_87 (tgt := 112) (by decide) ⟨by omega, by omega⟩ ⟨by omega, by omega⟩ (fun c69 => ?_) (fun c69 => ?_)
                      · refine px_iconst hG dX5_firstFree_112 ?_
                        exact px_iret (st := []) hG dX5_firstFree_113 rfl rfl (fun full_1 fr_1 ee => by cases ee; exact ⟨_, rfl, rfl, by omega⟩)
                      · refine px_iload_n hG dX5_firstFree_90 rfl ?_
                        refine px_iload_n hG dX5_firstFree_91 rfl ?_
                        refine px_ic_ge hG dX5_firstFree_92 (tgt := 112) (by decide) ⟨by omega, by omega⟩ ⟨by omega, by omega⟩ (fun c70 => ?_) (fun c70 => ?_)
                        · refine px_iconst hG dX5_firstFree_112 ?_
                          exact px_iret (st := []) hG dX5_firstFree_113 rfl rfl (fun full_1 fr_1 ee => by cases ee; exact ⟨_, rfl, rfl, by omega⟩)
                        · refine px_aload_n hG dX5_firstFree_95 rfl ?_
                          refine px_iload_n hG dX5_firstFree_96 rfl ?_
                          refine px_iload_n hG dX5_firstFree_97 rfl ?_
                          refine jv2 hG dX5_firstFree_98 ct_X5_isFree lk_X5_61 ⟨rfl, rfl⟩ (by decide) ⟨Nat.le_of_ble_eq_true rfl, Nat.le_of_ble_eq_true rfl, Nat.le_of_ble_eq_true rfl⟩ (Nat.le_of_ble_eq_true rfl) ⟨full, v3_63, rfl, rfl, R0⟩ (fun r71 t72 pr71 => ?_)
                          obtain ⟨x73, rfl, rfl, br71⟩ := pr71 _ _ rfl
                          show G 101 [some (.inr (.inr (3, 0))), some (.inl full), some (.inl fr), some (.inl v3_63)] [.inl x73] 122 s0
                          refine px_if_eq hG dX5_firstFree_101 (tgt := 106) (by decide) ⟨by omega, by omega⟩ (fun c74 => ?_) (fun c74 => ?_)
                          · refine px_iinc hG dX5_firstFree_106 (Nat.le_of_ble_eq_true rfl) rfl (L2 := [some (.inr (.inr (3, 0))), some (.inl full), some (.inl fr), some (.inl (v3_63 + 1))]) rfl ?_
                            refine px_goto hG dX5_firstFree_109 (tgt := 82) (by decide) ?_
                            exact ih65 (v3_63 + 1) (by omega) (by omega)
                          · refine px_iload_n hG dX5_firstFree_104 rfl ?_
                            exact px_iret (st := []) hG dX5_firstFree_105 rfl rfl (fun full_1 fr_1 ee => by cases ee; exact ⟨_, rfl, rfl, by omega⟩)
                  exact L64 _ 1 (by omega) (Nat.lt_succ_self _)
                · refine px_aload_n hG dX5_firstFree_63 rfl ?_
                  refine px_iload_n hG dX5_firstFree_64 rfl ?_
                  refine px_iload_n hG dX5_firstFree_65 rfl ?_
                  refine jv2 hG dX5_firstFree_66 ct_X5_isFree lk_X5_61 ⟨rfl, rfl⟩ (by decide) ⟨Nat.le_of_ble_eq_true rfl, Nat.le_of_ble_eq_true rfl, Nat.le_of_ble_eq_true rfl⟩ (Nat.le_of_ble_eq_true rfl) ⟨full, v3_56, rfl, rfl, R0⟩ (fun r75 t76 pr75 => ?_)
                  obtain ⟨x77, rfl, rfl, br75⟩ := pr75 _ _ rfl
                  show G 69 [some (.inr (.inr (3, 0))), some (.inl full), some (.inl fr), some (.inl v3_56)] [.inl x77] 122 s0
                  refine px_if_eq hG dX5_firstFree_69 (tgt := 74) (by decide) ⟨by omega, by omega⟩ (fun c78 => ?_) (fun c78 => ?_)
                  · refine px_iinc hG dX5_firstFree_74 (Nat.le_of_ble_eq_true rfl) rfl (L2 := [some (.inr (.inr (3, 0))), some (.inl full), some (.inl fr), some (.inl (v3_56 + 1))]) rfl ?_
                    refine px_goto hG dX5_firstFree_77 (tgt := 55) (by decide) ?_
                    exact ih58 (v3_56 + 1) (by omega) (by omega)
                  · refine px_iload_n hG dX5_firstFree_72 rfl ?_
                    exact px_iret (st := []) hG dX5_firstFree_73 rfl rfl (fun full_1 fr_1 ee => by cases ee; exact ⟨_, rfl, rfl, by omega⟩)
            exact L57 _ fr (by omega) (Nat.lt_succ_self _)
          · refine px_iload_n hG dX5_firstFree_26 rfl ?_
            refine px_iload_n hG dX5_firstFree_27 rfl ?_
            refine px_aload_n hG dX5_firstFree_28 rfl ?_
            refine gi_3_2 hG dX5_firstFree_29 fl_X5_18 R0 (fun x79 ex79 lx79 ux79 => ?_)
            refine px_isub hG dX5_firstFree_32 ?_
            refine px_ic_lt hG dX5_firstFree_33 (tgt := 53) (by decide) ⟨by omega, by omega⟩ ⟨by omega, by omega⟩ (fun c80 => ?_) (fun c80 => ?_)
            · refine px_iload_n hG dX5_firstFree_53 rfl ?_
              refine px_istore_n hG dX5_firstFree_54 (Nat.le_of_ble_eq_true rfl) (L2 := [some (.inr (.inr (3, 0))), some (.inl full), some (.inl fr), some (.inl fr)]) rfl ?_
              have L82 : ∀ (N : Nat) (v3_81 : Int), ((fr ≤ v3_81 ∧ v3_81 ≤ 10000)) → (10001 - v3_81).toNat < N → G 55 [some (.inr (.inr (3, 0))), some (.inl full), some (.inl fr), some (.inl v3_81)] [] 122 s0 := by
                intro N
                induction N with
                | zero => intro v3_81 inv84 hm85; exact absurd hm85 (Nat.not_lt_zero _)
                | succ N ih83 =>
                  intro v3_81 inv84 hm85
                  refine px_iload_n hG dX5_firstFree_55 rfl ?_
                  refine px_aload_n hG dX5_firstFree_56 rfl ?_
                  refine gi_3_1 hG dX5_firstFree_57 fl_X5_15 R0 (fun x86 ex86 lx86 ux86 => ?_)
                  refine px_ic_gt hG dX5_firstFree_60 (tgt := 80) (by decide) ⟨by omega, by omega⟩ ⟨by omega, by omega⟩ (fun c87 => ?_) (fun c87 => ?_)
                  · refine px_iconst hG dX5_firstFree_80 ?_
                    refine px_istore_n hG dX5_firstFree_81 (Nat.le_of_ble_eq_true rfl) (L2 := [some (.inr (.inr (3, 0))), some (.inl full), some (.inl fr), some (.inl 1)]) rfl ?_
                    have L89 : ∀ (N : Nat) (v3_88 : Int), ((1 ≤ v3_88 ∧ v3_88 ≤ 10000)) → (10001 - v3_88).toNat < N → G 82 [some (.inr (.inr (3, 0))), some (.inl full), some (.inl fr), some (.inl v3_88)] [] 122 s0 := by
                      intro N
                      induction N with
                      | zero => intro v3_88 inv91 hm92; exact absurd hm92 (Nat.not_lt_zero _)
                      | succ N ih90 =>
                        intro v3_88 inv91 hm92
                        refine px_aload_n hG dX5_firstFree_82 rfl ?_
                        refine gi_3_0 hG dX5_firstFree_83 fl_X5_9 R0 (fun x93 ex93 lx93 ux93 => ?_)
                        refine px_iconst hG dX5_firstFree_86 ?_
                        refine px_ic_ne hG dX5_firstFree_87 (tgt := 112) (by decide) ⟨by omega, by omega⟩ ⟨by omega, by omega⟩ (fun c94 => ?_) (fun c94 => ?_)
                        · refine px_iconst hG dX5_firstFree_112 ?_
                          exact px_iret (st := []) hG dX5_firstFree_113 rfl rfl (fun full_1 fr_1 ee => by cases ee; exact ⟨_, rfl, rfl, by omega⟩)
                        · refine px_iload_n hG dX5_firstFree_90 rfl ?_
                          refine px_iload_n hG dX5_firstFree_91 rfl ?_
                          refine px_ic_ge hG dX5_firstFree_92 (tgt := 112) (by decide) ⟨by omega, by omega⟩ ⟨by omega, by omega⟩ (fun c95 => ?_) (fun c95 => ?_)
                          · refine px_iconst hG dX5_firstFree_112 ?_
                            exact px_iret (st := []) hG dX5_firstFree_113 rfl rfl (fun full_1 fr_1 ee => by cases ee; exact ⟨_, rfl, rfl, by omega⟩)
                          · refine px_aload_n hG dX5_firstFree_95 rfl ?_
                            refine px_iload_n hG dX5_firstFree_96 rfl ?_
                            refine px_iload_n hG dX5_firstFree_97 rfl ?_
                            refine jv2 hG dX5_firstFree_98 ct_X5_isFree lk_X5_61 ⟨rfl, rfl⟩ (by decide) ⟨Nat.le_of_ble_eq_true rfl, Nat.le_of_ble_eq_true rfl, Nat.le_of_ble_eq_true rfl⟩ (Nat.le_of_ble_eq_true rfl) ⟨full, v3_88, rfl, rfl, R0⟩ (fun r96 t97 pr96 => ?_)
                            obtain ⟨x98, rfl, rfl, br96⟩ := pr96 _ _ rfl
                            show G 101 [some (.inr (.inr (3, 0))), some (.inl full), some (.inl fr), some (.inl v3_88)] [.inl x98] 122 s0
                            refine px_if_eq hG dX5_firstFree_101 (tgt := 106) (by decide) ⟨by omega, by omega⟩ (fun c99 => ?_) (fun c99 => ?_)
                            · refine px_iinc hG dX5_firstFree_106 (Nat.le_of_ble_eq_true rfl) rfl (L2 := [some (.inr (.inr (3, 0))), some (.inl full), some (.inl fr), some (.inl (v3_88 + 1))]) rfl ?_
                              refine px_goto hG dX5_firstFree_109 (tgt := 82) (by decide) ?_
                              exact ih90 (v3_88 + 1) (by omega) (by omega)
                            · refine px_iload_n hG dX5_firstFree_104 rfl ?_
                              exact px_iret (st := []) hG dX5_firstFree_105 rfl rfl (fun full_1 fr_1 ee => by cases ee; exact ⟨_, rfl, rfl, by omega⟩)
                    exact L89 _ 1 (by omega) (Nat.lt_succ_self _)
                  · refine px_aload_n hG dX5_firstFree_63 rfl ?_
                    refine px_iload_n hG dX5_firstFree_64 rfl ?_
                    refine px_iload_n hG dX5_firstFree_65 rfl ?_
                    refine jv2 hG dX5_firstFree_66 ct_X5_isFree lk_X5_61 ⟨rfl, rfl⟩ (by decide) ⟨Nat.le_of_ble_eq_true rfl, Nat.le_of_ble_eq_true rfl, Nat.le_of_ble_eq_true rfl⟩ (Nat.le_of_ble_eq_true rfl) ⟨full, v3_81, rfl, rfl, R0⟩ (fun r100 t101 pr100 => ?_)
                    obtain ⟨x102, rfl, rfl, br100⟩ := pr100 _ _ rfl
                    show G 69 [some (.inr (.inr (3, 0))), some (.inl full), some (.inl fr), some (.inl v3_81)] [.inl x102] 122 s0
                    refine px_if_eq hG dX5_firstFree_69 (tgt := 74) (by decide) ⟨by omega, by omega⟩ (fun c103 => ?_) (fun c103 => ?_)
                    · refine px_iinc hG dX5_firstFree_74 (Nat.le_of_ble_eq_true rfl) rfl (L2 := [some (.inr (.inr (3, 0))), some (.inl full), some (.inl fr), some (.inl (v3_81 + 1))]) rfl ?_
                      refine px_goto hG dX5_firstFree_77 (tgt := 55) (by decide) ?_
                      exact ih83 (v3_81 + 1) (by omega) (by omega)
                    · refine px_iload_n hG dX5_firstFree_72 rfl ?_
                      exact px_iret (st := []) hG dX5_firstFree_73 rfl rfl (fun full_1 fr_1 ee => by cases ee; exact ⟨_, rfl, rfl, by omega⟩)
              exact L82 _ fr (by omega) (Nat.lt_succ_self _)
            · refine px_aload_n hG dX5_firstFree_36 rfl ?_
              refine px_iload_n hG dX5_firstFree_37 rfl ?_
              refine px_iload_n hG dX5_firstFree_38 rfl ?_
              refine jv2 hG dX5_firstFree_39 ct_X5_isFree lk_X5_61 ⟨rfl, rfl⟩ (by decide) ⟨Nat.le_of_ble_eq_true rfl, Nat.le_of_ble_eq_true rfl, Nat.le_of_ble_eq_true rfl⟩ (Nat.le_of_ble_eq_true rfl) ⟨full, v3_51, rfl, rfl, R0⟩ (fun r104 t105 pr104 => ?_)
              obtain ⟨x106, rfl, rfl, br104⟩ := pr104 _ _ rfl
              show G 42 [some (.inr (.inr (3, 0))), some (.inl full), some (.inl fr), some (.inl v3_51)] [.inl x106] 122 s0
              refine px_if_eq hG dX5_firstFree_42 (tgt := 47) (by decide) ⟨by omega, by omega⟩ (fun c107 => ?_) (fun c107 => ?_)
              · refine px_iinc hG dX5_firstFree_47 (Nat.le_of_ble_eq_true rfl) rfl (L2 := [some (.inr (.inr (3, 0))), some (.inl full), some (.inl fr), some (.inl (v3_51 + -1))]) rfl ?_
                refine px_goto hG dX5_firstFree_50 (tgt := 21) (by decide) ?_
                exact ih52 (v3_51 + -1) (by omega) (by omega)
              · refine px_iload_n hG dX5_firstFree_45 rfl ?_
                exact px_iret (st := []) hG dX5_firstFree_46 rfl rfl (fun full_1 fr_1 ee => by cases ee; exact ⟨_, rfl, rfl, by omega⟩)
      exact L21 _ (fr - 1) (by omega) (Nat.lt_succ_self _))
