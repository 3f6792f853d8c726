/-! ===== Spreads, bitCount ===== -/
theorem pm_triN (k : Nat) : (k : Int) * ((k : Int) - 1) = 2 * pm_t1 k := by
  induction k with
  | zero => rfl
  | succ k ih =>
    have e : (((k + 1 : Nat)) : Int) * ((((k + 1 : Nat)) : Int) - 1) = (k : Int) * ((k : Int) - 1) + 2 * k := by
      rw [Int.natCast_add, Int.natCast_one, Int.add_sub_cancel, Int.add_mul, Int.mul_sub]
      omega
    rw [e, ih]
    simp only [pm_t1]
    omega
theorem pm_tri {n : Int} (h : 0 ≤ n) : n * (n - 1) = 2 * pm_t1 n.toNat := by
  have e := pm_triN n.toNat
  rw [Int.toNat_of_nonneg h] at e
  exact e
theorem pm_t1_lrN : ∀ l : Nat, l < 10 → ∀ r : Nat, r < 10 → l + r ≤ 9 → pm_t1 l + pm_t1 r + l ≤ 45 := by decide
theorem pm_t1_lr {l r : Int} (h : 0 ≤ l) (h1 : 0 ≤ r) (h2 : l + r ≤ 9) : pm_t1 l.toNat + pm_t1 r.toNat + l ≤ 45 := by
  have e := pm_t1_lrN l.toNat (by omega) r.toNat (by omega) (by omega)
  omega
def pre_X7_mostGoes (as : List pm_V) (n : Nat) (σ : pm_H) : Prop := ∃ n1 : Int, as = [.inr (.inr (31, 0)), .inl n1] ∧ n = 122 ∧ pm_Rng σ ∧ (0 ≤ n1 ∧ n1 ≤ 10)
def po_X7_mostGoes (as : List pm_V) (_ : Nat) (σ : pm_H) (r : Option pm_V) (τ : pm_H) : Prop := ∀ n1 : Int, as = [.inr (.inr (31, 0)), .inl n1] → ∃ v : Int, r = some (.inl v) ∧ σ = τ ∧ (v = pm_t1 n1.toNat ∧ 0 ≤ v ∧ v ≤ 45)
set_option maxRecDepth 20000 in
set_option maxHeartbeats 4000000 in
theorem ct_X7_mostGoes : pm_Ct yX7_mostGoes cX7_mostGoes 2 (some .int) 0 0 pre_X7_mostGoes po_X7_mostGoes := pm_sound (ini := false) (by decide +kernel) pk_X7_mostGoes (fun h => absurd h (by decide)) (by
  rintro as n s0 ⟨n1, rfl, rfl, R0, hpre⟩
  refine ⟨by decide, Nat.le_of_ble_eq_true rfl, fun G hG => ?_⟩
  have hG : pm_Rules (RX7, 0, 122, cX7_mostGoes, -1, (fun _ => 0), false, (some .int), po_X7_mostGoes [.inr (.inr (31, 0)), .inl n1] 122 s0) G := hG
  show G 0 [some (.inr (.inr (31, 0))), some (.inl n1)] [] 122 s0
  have T0 := pm_tri (n := n1) (by omega)
  have T1 := pm_t1_nn n1.toNat
  have T2 : pm_t1 n1.toNat ≤ 45 := pm_t1_m (show n1.toNat ≤ 10 by omega)
  refine px_iload_n hG dX7_mostGoes_0 rfl ?_
  refine px_iload_n hG dX7_mostGoes_1 rfl ?_
  refine px_iconst hG dX7_mostGoes_2 ?_
  refine px_isub hG dX7_mostGoes_3 ?_
  refine px_imul hG dX7_mostGoes_4 ?_
  refine px_iconst hG dX7_mostGoes_5 ?_
  refine px_idiv hG dX7_mostGoes_6 ⟨by omega, by omega⟩ ⟨by omega, by omega⟩ ?_
  generalize hx1 : (n1 * (n1 - 1)) / 2 = x1
  exact px_iret (st := []) hG dX7_mostGoes_7 rfl rfl (fun n1_1 ee => by cases ee; exact ⟨_, rfl, rfl, by omega⟩))
def pre_X7_goodRows (as : List pm_V) (n : Nat) (σ : pm_H) : Prop := ∃ n1 : Int, as = [.inr (.inr (31, 0)), .inl n1] ∧ n = 122 ∧ pm_Rng σ ∧ (0 ≤ n1 ∧ n1 ≤ 10)
def po_X7_goodRows (as : List pm_V) (_ : Nat) (σ : pm_H) (r : Option pm_V) (τ : pm_H) : Prop := ∀ n1 : Int, as = [.inr (.inr (31, 0)), .inl n1] → ∃ v : Int, r = some (.inr (.inl v)) ∧ σ = τ
set_option maxRecDepth 20000 in
set_option maxHeartbeats 4000000 in
theorem ct_X7_goodRows : pm_Ct yX7_goodRows cX7_goodRows 2 (some .long) 1 0 pre_X7_goodRows po_X7_goodRows := pm_sound (ini := false) (by decide +kernel) pk_X7_goodRows (fun h => absurd h (by decide)) (by
  rintro as n s0 ⟨n1, rfl, rfl, R0, hpre⟩
  refine ⟨by decide, Nat.le_of_ble_eq_true rfl, fun G hG => ?_⟩
  have hG : pm_Rules (RX7, 1, 122, cX7_goodRows, -1, (fun _ => 0), false, (some .long), po_X7_goodRows [.inr (.inr (31, 0)), .inl n1] 122 s0) G := hG
  show G 0 [some (.inr (.inr (31, 0))), some (.inl n1)] [] 122 s0
  refine px_iload_n hG dX7_goodRows_0 rfl ?_
  refine px_if_ne hG dX7_goodRows_1 (tgt := 8) (by decide) ⟨by omega, by omega⟩ (fun c1 => ?_) (fun c1 => ?_)
  · refine px_iload_n hG dX7_goodRows_8 rfl ?_
    refine px_iconst hG dX7_goodRows_9 ?_
    refine px_iadd hG dX7_goodRows_10 ?_
    refine px_i2l hG dX7_goodRows_11 ⟨by omega, by omega⟩ ?_
    refine px_iload_n hG dX7_goodRows_12 rfl ?_
    refine px_iconst hG dX7_goodRows_13 ?_
    refine px_isub hG dX7_goodRows_14 ?_
    refine js2 hG dX7_goodRows_15 ct_X10_power lk_X7_50 ⟨Nat.le_of_ble_eq_true rfl, Nat.le_of_ble_eq_true rfl, Nat.le_of_ble_eq_true rfl⟩ (Nat.le_of_ble_eq_true rfl) ⟨(n1 + 1), (n1 - 1), rfl, rfl, R0, by omega⟩ (fun r2 t3 pr2 => ?_)
    obtain ⟨z4, rfl, rfl⟩ := pr2 _ _ rfl
    show G 18 [some (.inr (.inr (31, 0))), some (.inl n1)] [.inr (.inl z4)] 122 s0
    exact px_lret (st := []) hG dX7_goodRows_18 rfl rfl (fun n1_1 ee => by cases ee; exact ⟨_, rfl, rfl⟩)
  · refine px_lconst hG dX7_goodRows_4 ?_
    show G 5 [some (.inr (.inr (31, 0))), some (.inl n1)] [.inr (.inl 1)] 122 s0
    refine px_goto hG dX7_goodRows_5 (tgt := 18) (by decide) ?_
    exact px_lret (st := []) hG dX7_goodRows_18 rfl rfl (fun n1_1 ee => by cases ee; exact ⟨_, rfl, rfl⟩))
def pre_X7_sidesOf (as : List pm_V) (n : Nat) (σ : pm_H) : Prop := ∃ n1 pl : Int, as = [.inr (.inr (31, 0)), .inl n1, .inl pl] ∧ n = 122 ∧ pm_Rng σ ∧ (1 ≤ n1 ∧ n1 ≤ 10 ∧ 1 ≤ pl ∧ pl ≤ n1)
def po_X7_sidesOf (as : List pm_V) (_ : Nat) (σ : pm_H) (r : Option pm_V) (τ : pm_H) : Prop := ∀ n1 pl : Int, as = [.inr (.inr (31, 0)), .inl n1, .inl pl] → ∃ v : Int, r = some (.inr (.inl v)) ∧ σ = τ
set_option maxRecDepth 20000 in
set_option maxHeartbeats 4000000 in
theorem ct_X7_sidesOf : pm_Ct yX7_sidesOf cX7_sidesOf 3 (some .long) 2 0 pre_X7_sidesOf po_X7_sidesOf := pm_sound (ini := false) (by decide +kernel) pk_X7_sidesOf (fun h => absurd h (by decide)) (by
  rintro as n s0 ⟨n1, pl, rfl, rfl, R0, hpre⟩
  refine ⟨by decide, Nat.le_of_ble_eq_true rfl, fun G hG => ?_⟩
  have hG : pm_Rules (RX7, 2, 122, cX7_sidesOf, -1, (fun _ => 0), false, (some .long), po_X7_sidesOf [.inr (.inr (31, 0)), .inl n1, .inl pl] 122 s0) G := hG
  show G 0 [some (.inr (.inr (31, 0))), some (.inl n1), some (.inl pl)] [] 122 s0
  refine px_aload_n hG dX7_sidesOf_0 rfl ?_
  refine gr_31_0 hG dX7_sidesOf_1 fl_X7_27 R0 ?_
  refine px_iload_n hG dX7_sidesOf_4 rfl ?_
  refine px_iconst hG dX7_sidesOf_5 ?_
  refine px_isub hG dX7_sidesOf_6 ?_
  refine px_iload_n hG dX7_sidesOf_7 rfl ?_
  refine px_iconst hG dX7_sidesOf_8 ?_
  refine px_isub hG dX7_sidesOf_9 ?_
  refine jv2 hG dX7_sidesOf_10 ct_X1_of lk_X7_45 ⟨rfl, rfl⟩ (by decide) ⟨Nat.le_of_ble_eq_true rfl, Nat.le_of_ble_eq_true rfl, Nat.le_of_ble_eq_true rfl⟩ (Nat.le_of_ble_eq_true rfl) ⟨(n1 - 1), (pl - 1), rfl, rfl, R0, by omega⟩ (fun r1 t2 pr1 => ?_)
  obtain ⟨x3, rfl, rfl, br1⟩ := pr1 _ _ rfl
  show G 13 [some (.inr (.inr (31, 0))), some (.inl n1), some (.inl pl)] [.inl x3] 122 s0
  refine px_i2l hG dX7_sidesOf_13 ⟨by omega, by omega⟩ ?_
  refine px_aload_n hG dX7_sidesOf_14 rfl ?_
  refine px_iload_n hG dX7_sidesOf_15 rfl ?_
  refine px_iconst hG dX7_sidesOf_16 ?_
  refine px_isub hG dX7_sidesOf_17 ?_
  refine jv1 hG dX7_sidesOf_18 ct_X7_goodRows lk_X7_58 ⟨rfl, rfl⟩ (by decide) ⟨Nat.le_of_ble_eq_true rfl, Nat.le_of_ble_eq_true rfl, Nat.le_of_ble_eq_true rfl⟩ (Nat.le_of_ble_eq_true rfl) ⟨(pl - 1), rfl, rfl, R0, by omega⟩ (fun r4 t5 pr4 => ?_)
  obtain ⟨z6, rfl, rfl⟩ := pr4 _ rfl
  show G 21 [some (.inr (.inr (31, 0))), some (.inl n1), some (.inl pl)] [.inr (.inl z6), .inr (.inl x3)] 122 s0
  refine px_lmul hG dX7_sidesOf_21 ?_
  refine px_aload_n hG dX7_sidesOf_22 rfl ?_
  refine px_iload_n hG dX7_sidesOf_23 rfl ?_
  refine px_iload_n hG dX7_sidesOf_24 rfl ?_
  refine px_isub hG dX7_sidesOf_25 ?_
  refine jv1 hG dX7_sidesOf_26 ct_X7_goodRows lk_X7_58 ⟨rfl, rfl⟩ (by decide) ⟨Nat.le_of_ble_eq_true rfl, Nat.le_of_ble_eq_true rfl, Nat.le_of_ble_eq_true rfl⟩ (Nat.le_of_ble_eq_true rfl) ⟨(n1 - pl), rfl, rfl, R0, by omega⟩ (fun r7 t8 pr7 => ?_)
  obtain ⟨z9, rfl, rfl⟩ := pr7 _ rfl
  show G 29 [some (.inr (.inr (31, 0))), some (.inl n1), some (.inl pl)] [.inr (.inl z9), .inr (.inl (x3 * z6))] 122 s0
  refine px_lmul hG dX7_sidesOf_29 ?_
  exact px_lret (st := []) hG dX7_sidesOf_30 rfl rfl (fun n1_1 pl_1 ee => by cases ee; exact ⟨_, rfl, rfl⟩))
def pre_X7_addGoes (as : List pm_V) (n : Nat) (σ : pm_H) : Prop := ∃ m1 pl : Int, as = [.inr (.inr (31, 0)), .inl m1, .inl pl] ∧ n = 122 ∧ pm_Rng σ ∧ (1 ≤ m1 ∧ m1 ≤ 10 ∧ 1 ≤ pl ∧ pl ≤ m1)
def po_X7_addGoes (as : List pm_V) (_ : Nat) (σ : pm_H) (r : Option pm_V) (τ : pm_H) : Prop := ∀ m1 pl : Int, as = [.inr (.inr (31, 0)), .inl m1, .inl pl] → r = none ∧ pm_Rng τ ∧ pm_Fr [(32, none)] σ τ
set_option maxRecDepth 20000 in
set_option maxHeartbeats 4000000 in
theorem ct_X7_addGoes : pm_Ct yX7_addGoes cX7_addGoes 10 none 1 0 pre_X7_addGoes po_X7_addGoes := pm_sound (ini := false) (by decide +kernel) pk_X7_addGoes (fun h => absurd h (by decide)) (by
  rintro as n s0 ⟨m1, pl, rfl, rfl, R0, hpre⟩
  refine ⟨by decide, Nat.le_of_ble_eq_true rfl, fun G hG => ?_⟩
  have hG : pm_Rules (RX7, 1, 122, cX7_addGoes, -1, (fun _ => 0), false, none, po_X7_addGoes [.inr (.inr (31, 0)), .inl m1, .inl pl] 122 s0) G := hG
  show G 0 [some (.inr (.inr (31, 0))), some (.inl m1), some (.inl pl), none, none, none, none, none, none, none] [] 122 s0
  have T := pm_t1_lr (l := pl - 1) (r := m1 - pl) (by omega) (by omega) (by omega)
  have TA := pm_t1_nn (pl - 1).toNat
  have TB := pm_t1_nn (m1 - pl).toNat
  refine px_iload_n hG dX7_addGoes_0 rfl ?_
  refine px_iconst hG dX7_addGoes_1 ?_
  refine px_isub hG dX7_addGoes_2 ?_
  refine px_istore_n hG dX7_addGoes_3 (Nat.le_of_ble_eq_true rfl) (L2 := [some (.inr (.inr (31, 0))), some (.inl m1), some (.inl pl), some (.inl (pl - 1)), none, none, none, none, none, none]) rfl ?_
  refine px_iload_n hG dX7_addGoes_4 rfl ?_
  refine px_iload_n hG dX7_addGoes_5 rfl ?_
  refine px_isub hG dX7_addGoes_6 ?_
  refine px_istore hG dX7_addGoes_7 (Nat.le_of_ble_eq_true rfl) (L2 := [some (.inr (.inr (31, 0))), some (.inl m1), some (.inl pl), some (.inl (pl - 1)), some (.inl (m1 - pl)), none, none, none, none, none]) rfl ?_
  refine px_iconst hG dX7_addGoes_9 ?_
  refine px_istore hG dX7_addGoes_10 (Nat.le_of_ble_eq_true rfl) (L2 := [some (.inr (.inr (31, 0))), some (.inl m1), some (.inl pl), some (.inl (pl - 1)), some (.inl (m1 - pl)), some (.inl 0), none, none, none, none]) rfl ?_
  have L12 : ∀ (N : Nat) (v5_1 : Int) (s2 : pm_H), pm_Rng s2 → pm_Fr [(32, none)] s0 s2 → ((0 ≤ v5_1 ∧ v5_1 ≤ 10000)) → (10001 - v5_1).toNat < N → G 12 [some (.inr (.inr (31, 0))), some (.inl m1), some (.inl pl), some (.inl (pl - 1)), some (.inl (m1 - pl)), some (.inl v5_1), none, none, none, none] [] 122 s2 := by
    intro N
    induction N with
    | zero => intro v5_1 s2 R3 F4 inv6 hm7; exact absurd hm7 (Nat.not_lt_zero _)
    | succ N ih5 =>
      intro v5_1 s2 R3 F4 inv6 hm7
      refine px_iload hG dX7_addGoes_12 rfl ?_
      refine px_aload_n hG dX7_addGoes_14 rfl ?_
      refine px_iload_n hG dX7_addGoes_15 rfl ?_
      refine jv1 hG dX7_addGoes_16 ct_X7_mostGoes lk_X7_68 ⟨rfl, rfl⟩ (by decide) ⟨Nat.le_of_ble_eq_true rfl, Nat.le_of_ble_eq_true rfl, Nat.le_of_ble_eq_true rfl⟩ (Nat.le_of_ble_eq_true rfl) ⟨(pl - 1), rfl, rfl, R3, by omega⟩ (fun r8 t9 pr8 => ?_)
      obtain ⟨x10, rfl, rfl, br8⟩ := pr8 _ rfl
      show G 19 [some (.inr (.inr (31, 0))), some (.inl m1), some (.inl pl), some (.inl (pl - 1)), some (.inl (m1 - pl)), some (.inl v5_1), none, none, none, none] [.inl x10, .inl v5_1] 122 s2
      refine px_ic_gt hG dX7_addGoes_19 (tgt := 118) (by decide) ⟨by omega, by omega⟩ ⟨by omega, by omega⟩ (fun c11 => ?_) (fun c11 => ?_)
      · exact px_vret (st := []) hG dX7_addGoes_118 rfl rfl (fun m1_1 pl_1 ee => by cases ee; exact ⟨rfl, R3, F4⟩)
      · refine px_iconst hG dX7_addGoes_22 ?_
        refine px_istore hG dX7_addGoes_23 (Nat.le_of_ble_eq_true rfl) (L2 := [some (.inr (.inr (31, 0))), some (.inl m1), some (.inl pl), some (.inl (pl - 1)), some (.inl (m1 - pl)), some (.inl v5_1), some (.inl 0), none, none, none]) rfl ?_
        have L25 : ∀ (N : Nat) (v6_12 : Int) (s13 : pm_H), pm_Rng s13 → pm_Fr [(32, none)] s0 s13 → ((0 ≤ v6_12 ∧ v6_12 ≤ 10000)) → (10001 - v6_12).toNat < N → G 25 [some (.inr (.inr (31, 0))), some (.inl m1), some (.inl pl), some (.inl (pl - 1)), some (.inl (m1 - pl)), some (.inl v5_1), some (.inl v6_12), none, none, none] [] 122 s13 := by
          intro N
          induction N with
          | zero => intro v6_12 s13 R14 F15 inv17 hm18; exact absurd hm18 (Nat.not_lt_zero _)
          | succ N ih16 =>
            intro v6_12 s13 R14 F15 inv17 hm18
            refine px_iload hG dX7_addGoes_25 rfl ?_
            refine px_aload_n hG dX7_addGoes_27 rfl ?_
            refine px_iload hG dX7_addGoes_28 rfl ?_
            refine jv1 hG dX7_addGoes_30 ct_X7_mostGoes lk_X7_68 ⟨rfl, rfl⟩ (by decide) ⟨Nat.le_of_ble_eq_true rfl, Nat.le_of_ble_eq_true rfl, Nat.le_of_ble_eq_true rfl⟩ (Nat.le_of_ble_eq_true rfl) ⟨(m1 - pl), rfl, rfl, R14, by omega⟩ (fun r19 t20 pr19 => ?_)
            obtain ⟨x21, rfl, rfl, br19⟩ := pr19 _ rfl
            show G 33 [some (.inr (.inr (31, 0))), some (.inl m1), some (.inl pl), some (.inl (pl - 1)), some (.inl (m1 - pl)), some (.inl v5_1), some (.inl v6_12), none, none, none] [.inl x21, .inl v6_12] 122 s13
            refine px_ic_gt hG dX7_addGoes_33 (tgt := 112) (by decide) ⟨by omega, by omega⟩ ⟨by omega, by omega⟩ (fun c22 => ?_) (fun c22 => ?_)
            · refine px_iinc hG dX7_addGoes_112 (Nat.le_of_ble_eq_true rfl) rfl (L2 := [some (.inr (.inr (31, 0))), some (.inl m1), some (.inl pl), some (.inl (pl - 1)), some (.inl (m1 - pl)), some (.inl (v5_1 + 1)), some (.inl v6_12), none, none, none]) rfl ?_
              refine px_goto hG dX7_addGoes_115 (tgt := 12) (by decide) ?_
              refine px_weak hG (L2 := [some (.inr (.inr (31, 0))), some (.inl m1), some (.inl pl), some (.inl (pl - 1)), some (.inl (m1 - pl)), some (.inl (v5_1 + 1)), none, none, none, none]) ⟨Or.inr rfl, Or.inr rfl, Or.inr rfl, Or.inr rfl, Or.inr rfl, Or.inr rfl, Or.inl rfl, Or.inr rfl, Or.inr rfl, Or.inr rfl, trivial⟩ ?_
              exact ih5 (v5_1 + 1) s13 R14 F15 (by omega) (by omega)
            · refine px_aload_n hG dX7_addGoes_36 rfl ?_
              refine gr_31_0 hG dX7_addGoes_37 fl_X7_27 R14 ?_
              refine px_iload_n hG dX7_addGoes_40 rfl ?_
              refine px_iconst hG dX7_addGoes_41 ?_
              refine px_isub hG dX7_addGoes_42 ?_
              refine px_iload_n hG dX7_addGoes_43 rfl ?_
              refine jv2 hG dX7_addGoes_44 ct_X1_of lk_X7_45 ⟨rfl, rfl⟩ (by decide) ⟨Nat.le_of_ble_eq_true rfl, Nat.le_of_ble_eq_true rfl, Nat.le_of_ble_eq_true rfl⟩ (Nat.le_of_ble_eq_true rfl) ⟨(m1 - 1), (pl - 1), rfl, rfl, R14, by omega⟩ (fun r23 t24 pr23 => ?_)
              obtain ⟨x25, rfl, rfl, br23⟩ := pr23 _ _ rfl
              show G 47 [some (.inr (.inr (31, 0))), some (.inl m1), some (.inl pl), some (.inl (pl - 1)), some (.inl (m1 - pl)), some (.inl v5_1), some (.inl v6_12), none, none, none] [.inl x25] 122 s13
              refine px_i2l hG dX7_addGoes_47 ⟨by omega, by omega⟩ ?_
              refine px_aload_n hG dX7_addGoes_48 rfl ?_
              refine gr_31_2 hG dX7_addGoes_49 fl_X7_17 R14 ?_
              refine px_iload_n hG dX7_addGoes_52 rfl ?_
              refine aa_32 hG dX7_addGoes_53 (by omega) ?_
              refine px_iload hG dX7_addGoes_54 rfl ?_
              refine al_32 hG dX7_addGoes_56 (by omega) (by omega) (fun z26 ez26 => ?_)
              refine px_lmul hG dX7_addGoes_57 ?_
              refine px_aload_n hG dX7_addGoes_58 rfl ?_
              refine gr_31_2 hG dX7_addGoes_59 fl_X7_17 R14 ?_
              refine px_iload hG dX7_addGoes_62 rfl ?_
              refine aa_32 hG dX7_addGoes_64 (by omega) ?_
              refine px_iload hG dX7_addGoes_65 rfl ?_
              refine al_32 hG dX7_addGoes_67 (by omega) (by omega) (fun z27 ez27 => ?_)
              refine px_lmul hG dX7_addGoes_68 ?_
              refine px_lstore hG dX7_addGoes_69 (Nat.le_of_ble_eq_true rfl) (L2 := [some (.inr (.inr (31, 0))), some (.inl m1), some (.inl pl), some (.inl (pl - 1)), some (.inl (m1 - pl)), some (.inl v5_1), some (.inl v6_12), some (.inr (.inl ((x25 * z26) * z27))), none, none]) rfl ?_
              refine px_iconst hG dX7_addGoes_71 ?_
              refine px_istore hG dX7_addGoes_72 (Nat.le_of_ble_eq_true rfl) (L2 := [some (.inr (.inr (31, 0))), some (.inl m1), some (.inl pl), some (.inl (pl - 1)), some (.inl (m1 - pl)), some (.inl v5_1), some (.inl v6_12), some (.inr (.inl ((x25 * z26) * z27))), none, some (.inl 0)]) rfl ?_
              have L74 : ∀ (N : Nat) (v9_28 : Int) (s29 : pm_H), pm_Rng s29 → pm_Fr [(32, none)] s0 s29 → ((0 ≤ v9_28 ∧ v9_28 ≤ 10000)) → (10001 - v9_28).toNat < N → G 74 [some (.inr (.inr (31, 0))), some (.inl m1), some (.inl pl), some (.inl (pl - 1)), some (.inl (m1 - pl)), some (.inl v5_1), some (.inl v6_12), some (.inr (.inl ((x25 * z26) * z27))), none, some (.inl v9_28)] [] 122 s29 := by
                intro N
                induction N with
                | zero => intro v9_28 s29 R30 F31 inv33 hm34; exact absurd hm34 (Nat.not_lt_zero _)
                | succ N ih32 =>
                  intro v9_28 s29 R30 F31 inv33 hm34
                  refine px_iload hG dX7_addGoes_74 rfl ?_
                  refine px_iload_n hG dX7_addGoes_76 rfl ?_
                  refine px_ic_ge hG dX7_addGoes_77 (tgt := 106) (by decide) ⟨by omega, by omega⟩ ⟨by omega, by omega⟩ (fun c35 => ?_) (fun c35 => ?_)
                  · refine px_iinc hG dX7_addGoes_106 (Nat.le_of_ble_eq_true rfl) rfl (L2 := [some (.inr (.inr (31, 0))), some (.inl m1), some (.inl pl), some (.inl (pl - 1)), some (.inl (m1 - pl)), some (.inl v5_1), some (.inl (v6_12 + 1)), some (.inr (.inl ((x25 * z26) * z27))), none, some (.inl v9_28)]) rfl ?_
                    refine px_goto hG dX7_addGoes_109 (tgt := 25) (by decide) ?_
                    refine px_weak hG (L2 := [some (.inr (.inr (31, 0))), some (.inl m1), some (.inl pl), some (.inl (pl - 1)), some (.inl (m1 - pl)), some (.inl v5_1), some (.inl (v6_12 + 1)), none, none, none]) ⟨Or.inr rfl, Or.inr rfl, Or.inr rfl, Or.inr rfl, Or.inr rfl, Or.inr rfl, Or.inr rfl, Or.inl rfl, Or.inr rfl, Or.inl rfl, trivial⟩ ?_
                    exact ih16 (v6_12 + 1) s29 R30 F31 (by omega) (by omega)
                  · refine px_aload_n hG dX7_addGoes_80 rfl ?_
                    refine gr_31_2 hG dX7_addGoes_81 fl_X7_17 R30 ?_
                    refine px_iload_n hG dX7_addGoes_84 rfl ?_
                    refine aa_32 hG dX7_addGoes_85 (by omega) ?_
                    refine px_iload hG dX7_addGoes_86 rfl ?_
                    refine px_iload hG dX7_addGoes_88 rfl ?_
                    refine px_iadd hG dX7_addGoes_90 ?_
                    refine px_iload hG dX7_addGoes_91 rfl ?_
                    refine px_iadd hG dX7_addGoes_93 ?_
                    refine px_dup2 hG dX7_addGoes_94 ?_
                    refine al_32 hG dX7_addGoes_95 (by omega) (by omega) (fun z36 ez36 => ?_)
                    refine px_lload hG dX7_addGoes_96 rfl ?_
                    refine px_ladd hG dX7_addGoes_98 ?_
                    refine as_32 hG dX7_addGoes_99 R30 (by omega) (by omega) (fun s37 qs37 Rs37 => ?_)
                    have Fs37 := pm_Fr_up (F31) qs37 (M := [(32, none)]) rfl
                    refine px_iinc hG dX7_addGoes_100 (Nat.le_of_ble_eq_true rfl) rfl (L2 := [some (.inr (.inr (31, 0))), some (.inl m1), some (.inl pl), some (.inl (pl - 1)), some (.inl (m1 - pl)), some (.inl v5_1), some (.inl v6_12), some (.inr (.inl ((x25 * z26) * z27))), none, some (.inl (v9_28 + 1))]) rfl ?_
                    refine px_goto hG dX7_addGoes_103 (tgt := 74) (by decide) ?_
                    exact ih32 (v9_28 + 1) s37 Rs37 Fs37 (by omega) (by omega)
              exact L74 _ 0 s13 R14 F15 (by omega) (Nat.lt_succ_self _)
        exact L25 _ 0 s2 R3 F4 (by omega) (Nat.lt_succ_self _)
  exact L12 _ 0 s0 R0 pm_Fr_rf (by omega) (Nat.lt_succ_self _))
def pre_X7_addLucky (as : List pm_V) (n : Nat) (σ : pm_H) : Prop := ∃ m1 pl : Int, as = [.inr (.inr (31, 0)), .inl m1, .inl pl] ∧ n = 122 ∧ pm_Rng σ ∧ (1 ≤ m1 ∧ m1 ≤ 10 ∧ 1 ≤ pl ∧ pl ≤ m1)
def po_X7_addLucky (as : List pm_V) (_ : Nat) (σ : pm_H) (r : Option pm_V) (τ : pm_H) : Prop := ∀ m1 pl : Int, as = [.inr (.inr (31, 0)), .inl m1, .inl pl] → r = none ∧ pm_Rng τ ∧ pm_Fr [(33, none)] σ τ
set_option maxRecDepth 20000 in
set_option maxHeartbeats 4000000 in
theorem ct_X7_addLucky : pm_Ct yX7_addLucky cX7_addLucky 9 none 1 0 pre_X7_addLucky po_X7_addLucky := pm_sound (ini := false) (by decide +kernel) pk_X7_addLucky (fun h => absurd h (by decide)) (by
  rintro as n s0 ⟨m1, pl, rfl, rfl, R0, hpre⟩
  refine ⟨by decide, Nat.le_of_ble_eq_true rfl, fun G hG => ?_⟩
  have hG : pm_Rules (RX7, 1, 122, cX7_addLucky, -1, (fun _ => 0), false, none, po_X7_addLucky [.inr (.inr (31, 0)), .inl m1, .inl pl] 122 s0) G := hG
  show G 0 [some (.inr (.inr (31, 0))), some (.inl m1), some (.inl pl), none, none, none, none, none, none] [] 122 s0
  refine px_iload_n hG dX7_addLucky_0 rfl ?_
  refine px_iconst hG dX7_addLucky_1 ?_
  refine px_isub hG dX7_addLucky_2 ?_
  refine px_istore_n hG dX7_addLucky_3 (Nat.le_of_ble_eq_true rfl) (L2 := [some (.inr (.inr (31, 0))), some (.inl m1), some (.inl pl), some (.inl (pl - 1)), none, none, none, none, none]) rfl ?_
  refine px_iload_n hG dX7_addLucky_4 rfl ?_
  refine px_iload_n hG dX7_addLucky_5 rfl ?_
  refine px_isub hG dX7_addLucky_6 ?_
  refine px_istore hG dX7_addLucky_7 (Nat.le_of_ble_eq_true rfl) (L2 := [some (.inr (.inr (31, 0))), some (.inl m1), some (.inl pl), some (.inl (pl - 1)), some (.inl (m1 - pl)), none, none, none, none]) rfl ?_
  refine px_iconst hG dX7_addLucky_9 ?_
  refine px_istore hG dX7_addLucky_10 (Nat.le_of_ble_eq_true rfl) (L2 := [some (.inr (.inr (31, 0))), some (.inl m1), some (.inl pl), some (.inl (pl - 1)), some (.inl (m1 - pl)), some (.inl 0), none, none, none]) rfl ?_
  have L12 : ∀ (N : Nat) (v5_1 : Int) (s2 : pm_H), pm_Rng s2 → pm_Fr [(33, none)] s0 s2 → ((0 ≤ v5_1 ∧ v5_1 ≤ 10000)) → (10001 - v5_1).toNat < N → G 12 [some (.inr (.inr (31, 0))), some (.inl m1), none, some (.inl (pl - 1)), some (.inl (m1 - pl)), some (.inl v5_1), none, none, none] [] 122 s2 := by
    intro N
    induction N with
    | zero => intro v5_1 s2 R3 F4 inv6 hm7; exact absurd hm7 (Nat.not_lt_zero _)
    | succ N ih5 =>
      intro v5_1 s2 R3 F4 inv6 hm7
      refine px_iload hG dX7_addLucky_12 rfl ?_
      refine px_iload_n hG dX7_addLucky_14 rfl ?_
      refine px_ic_gt hG dX7_addLucky_15 (tgt := 114) (by decide) ⟨by omega, by omega⟩ ⟨by omega, by omega⟩ (fun c8 => ?_) (fun c8 => ?_)
      · exact px_vret (st := []) hG dX7_addLucky_114 rfl rfl (fun m1_1 pl_1 ee => by cases ee; exact ⟨rfl, R3, F4⟩)
      · refine px_iconst hG dX7_addLucky_18 ?_
        refine px_istore hG dX7_addLucky_19 (Nat.le_of_ble_eq_true rfl) (L2 := [some (.inr (.inr (31, 0))), some (.inl m1), none, some (.inl (pl - 1)), some (.inl (m1 - pl)), some (.inl v5_1), some (.inl 0), none, none]) rfl ?_
        have L21 : ∀ (N : Nat) (v6_9 : Int) (s10 : pm_H), pm_Rng s10 → pm_Fr [(33, none)] s0 s10 → ((0 ≤ v6_9 ∧ v6_9 ≤ 10000)) → (10001 - v6_9).toNat < N → G 21 [some (.inr (.inr (31, 0))), some (.inl m1), none, some (.inl (pl - 1)), some (.inl (m1 - pl)), some (.inl v5_1), some (.inl v6_9), none, none] [] 122 s10 := by
          intro N
          induction N with
          | zero => intro v6_9 s10 R11 F12 inv14 hm15; exact absurd hm15 (Nat.not_lt_zero _)
          | succ N ih13 =>
            intro v6_9 s10 R11 F12 inv14 hm15
            refine px_iload hG dX7_addLucky_21 rfl ?_
            refine px_iload hG dX7_addLucky_23 rfl ?_
            refine px_ic_gt hG dX7_addLucky_25 (tgt := 108) (by decide) ⟨by omega, by omega⟩ ⟨by omega, by omega⟩ (fun c16 => ?_) (fun c16 => ?_)
            · refine px_iinc hG dX7_addLucky_108 (Nat.le_of_ble_eq_true rfl) rfl (L2 := [some (.inr (.inr (31, 0))), some (.inl m1), none, some (.inl (pl - 1)), some (.inl (m1 - pl)), some (.inl (v5_1 + 1)), some (.inl v6_9), none, none]) rfl ?_
              refine px_goto hG dX7_addLucky_111 (tgt := 12) (by decide) ?_
              refine px_weak hG (L2 := [some (.inr (.inr (31, 0))), some (.inl m1), none, some (.inl (pl - 1)), some (.inl (m1 - pl)), some (.inl (v5_1 + 1)), none, none, none]) ⟨Or.inr rfl, Or.inr rfl, Or.inr rfl, Or.inr rfl, Or.inr rfl, Or.inr rfl, Or.inl rfl, Or.inr rfl, Or.inr rfl, trivial⟩ ?_
              exact ih5 (v5_1 + 1) s10 R11 F12 (by omega) (by omega)
            · refine px_aload_n hG dX7_addLucky_28 rfl ?_
              refine gr_31_0 hG dX7_addLucky_29 fl_X7_27 R11 ?_
              refine px_iload_n hG dX7_addLucky_32 rfl ?_
              refine px_iconst hG dX7_addLucky_33 ?_
              refine px_isub hG dX7_addLucky_34 ?_
              refine px_iload_n hG dX7_addLucky_35 rfl ?_
              refine jv2 hG dX7_addLucky_36 ct_X1_of lk_X7_45 ⟨rfl, rfl⟩ (by decide) ⟨Nat.le_of_ble_eq_true rfl, Nat.le_of_ble_eq_true rfl, Nat.le_of_ble_eq_true rfl⟩ (Nat.le_of_ble_eq_true rfl) ⟨(m1 - 1), (pl - 1), rfl, rfl, R11, by omega⟩ (fun r17 t18 pr17 => ?_)
              obtain ⟨x19, rfl, rfl, br17⟩ := pr17 _ _ rfl
              show G 39 [some (.inr (.inr (31, 0))), some (.inl m1), none, some (.inl (pl - 1)), some (.inl (m1 - pl)), some (.inl v5_1), some (.inl v6_9), none, none] [.inl x19] 122 s10
              refine px_i2l hG dX7_addLucky_39 ⟨by omega, by omega⟩ ?_
              refine px_aload_n hG dX7_addLucky_40 rfl ?_
              refine gr_31_3 hG dX7_addLucky_41 fl_X7_20 R11 ?_
              refine px_iload_n hG dX7_addLucky_44 rfl ?_
              refine aa_33 hG dX7_addLucky_45 (by omega) ?_
              refine px_iload hG dX7_addLucky_46 rfl ?_
              refine al_33 hG dX7_addLucky_48 (by omega) (by omega) (fun z20 ez20 => ?_)
              refine px_lmul hG dX7_addLucky_49 ?_
              refine px_aload_n hG dX7_addLucky_50 rfl ?_
              refine gr_31_3 hG dX7_addLucky_51 fl_X7_20 R11 ?_
              refine px_iload hG dX7_addLucky_54 rfl ?_
              refine aa_33 hG dX7_addLucky_56 (by omega) ?_
              refine px_iload hG dX7_addLucky_57 rfl ?_
              refine al_33 hG dX7_addLucky_59 (by omega) (by omega) (fun z21 ez21 => ?_)
              refine px_lmul hG dX7_addLucky_60 ?_
              refine px_lstore hG dX7_addLucky_61 (Nat.le_of_ble_eq_true rfl) (L2 := [some (.inr (.inr (31, 0))), some (.inl m1), none, some (.inl (pl - 1)), some (.inl (m1 - pl)), some (.inl v5_1), some (.inl v6_9), some (.inr (.inl ((x19 * z20) * z21))), none]) rfl ?_
              refine px_aload_n hG dX7_addLucky_63 rfl ?_
              refine gr_31_3 hG dX7_addLucky_64 fl_X7_20 R11 ?_
              refine px_iload_n hG dX7_addLucky_67 rfl ?_
              refine aa_33 hG dX7_addLucky_68 (by omega) ?_
              refine px_iload hG dX7_addLucky_69 rfl ?_
              refine px_iload hG dX7_addLucky_71 rfl ?_
              refine px_iadd hG dX7_addLucky_73 ?_
              refine px_dup2 hG dX7_addLucky_74 ?_
              refine al_33 hG dX7_addLucky_75 (by omega) (by omega) (fun z22 ez22 => ?_)
              refine px_lload hG dX7_addLucky_76 rfl ?_
              refine px_iload_n hG dX7_addLucky_78 rfl ?_
              refine px_i2l hG dX7_addLucky_79 ⟨by omega, by omega⟩ ?_
              refine px_lmul hG dX7_addLucky_80 ?_
              refine px_ladd hG dX7_addLucky_81 ?_
              refine as_33 hG dX7_addLucky_82 R11 (by omega) (by omega) (fun s23 qs23 Rs23 => ?_)
              have Fs23 := pm_Fr_up (F12) qs23 (M := [(33, none)]) rfl
              refine px_aload_n hG dX7_addLucky_83 rfl ?_
              refine gr_31_3 hG dX7_addLucky_84 fl_X7_20 Rs23 ?_
              refine px_iload_n hG dX7_addLucky_87 rfl ?_
              refine aa_33 hG dX7_addLucky_88 (by omega) ?_
              refine px_iload hG dX7_addLucky_89 rfl ?_
              refine px_iload hG dX7_addLucky_91 rfl ?_
              refine px_iadd hG dX7_addLucky_93 ?_
              refine px_iconst hG dX7_addLucky_94 ?_
              refine px_iadd hG dX7_addLucky_95 ?_
              refine px_dup2 hG dX7_addLucky_96 ?_
              refine al_33 hG dX7_addLucky_97 (by omega) (by omega) (fun z24 ez24 => ?_)
              refine px_lload hG dX7_addLucky_98 rfl ?_
              refine px_ladd hG dX7_addLucky_100 ?_
              refine as_33 hG dX7_addLucky_101 Rs23 (by omega) (by omega) (fun s25 qs25 Rs25 => ?_)
              have Fs25 := pm_Fr_up (Fs23) qs25 (M := [(33, none)]) rfl
              refine px_iinc hG dX7_addLucky_102 (Nat.le_of_ble_eq_true rfl) rfl (L2 := [some (.inr (.inr (31, 0))), some (.inl m1), none, some (.inl (pl - 1)), some (.inl (m1 - pl)), some (.inl v5_1), some (.inl (v6_9 + 1)), some (.inr (.inl ((x19 * z20) * z21))), none]) rfl ?_
              refine px_goto hG dX7_addLucky_105 (tgt := 21) (by decide) ?_
              refine px_weak hG (L2 := [some (.inr (.inr (31, 0))), some (.inl m1), none, some (.inl (pl - 1)), some (.inl (m1 - pl)), some (.inl v5_1), some (.inl (v6_9 + 1)), none, none]) ⟨Or.inr rfl, Or.inr rfl, Or.inr rfl, Or.inr rfl, Or.inr rfl, Or.inr rfl, Or.inr rfl, Or.inl rfl, Or.inr rfl, trivial⟩ ?_
              exact ih13 (v6_9 + 1) s25 Rs25 Fs25 (by omega) (by omega)
        exact L21 _ 0 s2 R3 F4 (by omega) (Nat.lt_succ_self _)
  refine px_weak hG (L2 := [some (.inr (.inr (31, 0))), some (.inl m1), none, some (.inl (pl - 1)), some (.inl (m1 - pl)), some (.inl 0), none, none, none]) ⟨Or.inr rfl, Or.inr rfl, Or.inl rfl, Or.inr rfl, Or.inr rfl, Or.inr rfl, Or.inr rfl, Or.inr rfl, Or.inr rfl, trivial⟩ ?_
  exact L12 _ 0 s0 R0 pm_Fr_rf (by omega) (Nat.lt_succ_self _))
def pre_X7_learn (as : List pm_V) (n : Nat) (σ : pm_H) : Prop := ∃ n1 : Int, as = [.inr (.inr (31, 0)), .inl n1] ∧ n = 122 ∧ pm_Rng σ ∧ (1 ≤ n1 ∧ n1 ≤ 10)
def po_X7_learn (as : List pm_V) (_ : Nat) (σ : pm_H) (r : Option pm_V) (τ : pm_H) : Prop := ∀ n1 : Int, as = [.inr (.inr (31, 0)), .inl n1] → r = none ∧ pm_Rng τ ∧ pm_Fr [(31, some 1), (32, none), (33, none)] σ τ
set_option maxRecDepth 20000 in
set_option maxHeartbeats 4000000 in
theorem ct_X7_learn : pm_Ct yX7_learn cX7_learn 4 none 2 0 pre_X7_learn po_X7_learn := pm_sound (ini := false) (by decide +kernel) pk_X7_learn (fun h => absurd h (by decide)) (by
  rintro as n s0 ⟨n1, rfl, rfl, R0, hpre⟩
  refine ⟨by decide, Nat.le_of_ble_eq_true rfl, fun G hG => ?_⟩
  have hG : pm_Rules (RX7, 2, 122, cX7_learn, -1, (fun _ => 0), false, none, po_X7_learn [.inr (.inr (31, 0)), .inl n1] 122 s0) G := hG
  show G 0 [some (.inr (.inr (31, 0))), some (.inl n1), none, none] [] 122 s0
  refine px_aload_n hG dX7_learn_0 rfl ?_
  refine gi_31_1 hG dX7_learn_1 fl_X7_9 R0 (fun x1 ex1 lx1 ux1 => ?_)
  refine px_iconst hG dX7_learn_4 ?_
  refine px_iadd hG dX7_learn_5 ?_
  refine px_istore_n hG dX7_learn_6 (Nat.le_of_ble_eq_true rfl) (L2 := [some (.inr (.inr (31, 0))), some (.inl n1), some (.inl (x1 + 1)), none]) rfl ?_
  have L7 : ∀ (N : Nat) (v2_2 : Int) (s3 : pm_H), pm_Rng s3 → pm_Fr [(31, some 1), (32, none), (33, none)] s0 s3 → s3 31 0 1 = x1 → ((x1 + 1 ≤ v2_2 ∧ v2_2 ≤ 10000)) → (10001 - v2_2).toNat < N → G 7 [some (.inr (.inr (31, 0))), some (.inl n1), some (.inl v2_2), none] [] 122 s3 := by
    intro N
    induction N with
    | zero => intro v2_2 s3 R4 F5 k7 inv8 hm9; exact absurd hm9 (Nat.not_lt_zero _)
    | succ N ih6 =>
      intro v2_2 s3 R4 F5 k7 inv8 hm9
      refine px_iload_n hG dX7_learn_7 rfl ?_
      refine px_iload_n hG dX7_learn_8 rfl ?_
      have J43_11 : ((v2_2 > n1)) → G 43 [some (.inr (.inr (31, 0))), some (.inl n1), none, none] [] 122 s3 := by
        intro inv12
        refine px_aload_n hG dX7_learn_43 rfl ?_
        refine px_aload_n hG dX7_learn_44 rfl ?_
        refine gi_31_1 hG dX7_learn_45 fl_X7_9 R4 (fun x13 ex13 lx13 ux13 => ?_)
        refine px_iload_n hG dX7_learn_48 rfl ?_
        refine px_max hG dX7_learn_49 lm_X7_39 (Nat.le_of_ble_eq_true rfl) (Nat.le_of_ble_eq_true rfl) ⟨⟨by omega, by omega⟩, ⟨by omega, by omega⟩⟩ (fun x14 bx14 => ?_)
        refine pi_31_1 hG dX7_learn_52 fl_X7_9 R4 (by omega) (fun s15 qs15 Rs15 => ?_)
        have Fs15 := pm_Fr_up (F5) qs15 (M := [(31, some 1), (32, none), (33, none)]) rfl
        have k16 : s15 31 0 1 = x14 := pm_at qs15
        exact px_vret (st := []) hG dX7_learn_55 rfl rfl (fun n1_1 ee => by cases ee; exact ⟨rfl, Rs15, Fs15⟩)
      refine px_ic_gt hG dX7_learn_9 (tgt := 43) (by decide) ⟨by omega, by omega⟩ ⟨by omega, by omega⟩ (fun c10 => ?_) (fun c10 => ?_)
      · refine px_weak hG (L2 := [some (.inr (.inr (31, 0))), some (.inl n1), none, none]) ⟨Or.inr rfl, Or.inr rfl, Or.inl rfl, Or.inr rfl, trivial⟩ ?_
        exact J43_11  (by omega)
      · refine px_iconst hG dX7_learn_12 ?_
        refine px_istore_n hG dX7_learn_13 (Nat.le_of_ble_eq_true rfl) (L2 := [some (.inr (.inr (31, 0))), some (.inl n1), some (.inl v2_2), some (.inl 1)]) rfl ?_
        have L14 : ∀ (N : Nat) (v3_17 : Int) (s18 : pm_H), pm_Rng s18 → pm_Fr [(31, some 1), (32, none), (33, none)] s0 s18 → s18 31 0 1 = x1 → ((1 ≤ v3_17 ∧ v3_17 ≤ 10000)) → (10001 - v3_17).toNat < N → G 14 [some (.inr (.inr (31, 0))), some (.inl n1), some (.inl v2_2), some (.inl v3_17)] [] 122 s18 := by
          intro N
          induction N with
          | zero => intro v3_17 s18 R19 F20 k22 inv23 hm24; exact absurd hm24 (Nat.not_lt_zero _)
          | succ N ih21 =>
            intro v3_17 s18 R19 F20 k22 inv23 hm24
            refine px_iload_n hG dX7_learn_14 rfl ?_
            refine px_iload_n hG dX7_learn_15 rfl ?_
            refine px_ic_gt hG dX7_learn_16 (tgt := 37) (by decide) ⟨by omega, by omega⟩ ⟨by omega, by omega⟩ (fun c25 => ?_) (fun c25 => ?_)
            · refine px_iinc hG dX7_learn_37 (Nat.le_of_ble_eq_true rfl) rfl (L2 := [some (.inr (.inr (31, 0))), some (.inl n1), some (.inl (v2_2 + 1)), some (.inl v3_17)]) rfl ?_
              refine px_goto hG dX7_learn_40 (tgt := 7) (by decide) ?_
              refine px_weak hG (L2 := [some (.inr (.inr (31, 0))), some (.inl n1), some (.inl (v2_2 + 1)), none]) ⟨Or.inr rfl, Or.inr rfl, Or.inr rfl, Or.inl rfl, trivial⟩ ?_
              exact ih6 (v2_2 + 1) s18 R19 F20 k22 (by omega) (by omega)
            · refine px_aload_n hG dX7_learn_19 rfl ?_
              refine px_iload_n hG dX7_learn_20 rfl ?_
              refine px_iload_n hG dX7_learn_21 rfl ?_
              refine jv2 hG dX7_learn_22 ct_X7_addGoes lk_X7_61 ⟨rfl, rfl⟩ (by decide) ⟨Nat.le_of_ble_eq_true rfl, Nat.le_of_ble_eq_true rfl, Nat.le_of_ble_eq_true rfl⟩ (Nat.le_of_ble_eq_true rfl) ⟨v2_2, v3_17, rfl, rfl, R19, by omega⟩ (fun r26 t28 pr26 => ?_)
              obtain ⟨rfl, Rt28, Ft28⟩ := pr26 _ _ rfl
              have Ff30 := pm_Fr_tr F20 Ft28 (M := [(31, some 1), (32, none), (33, none)]) rfl
              have k31 : t28 31 0 1 = x1 := (Ft28 31 0 1 rfl).trans k22
              show G 25 [some (.inr (.inr (31, 0))), some (.inl n1), some (.inl v2_2), some (.inl v3_17)] [] 122 t28
              refine px_aload_n hG dX7_learn_25 rfl ?_
              refine px_iload_n hG dX7_learn_26 rfl ?_
              refine px_iload_n hG dX7_learn_27 rfl ?_
              refine jv2 hG dX7_learn_28 ct_X7_addLucky lk_X7_65 ⟨rfl, rfl⟩ (by decide) ⟨Nat.le_of_ble_eq_true rfl, Nat.le_of_ble_eq_true rfl, Nat.le_of_ble_eq_true rfl⟩ (Nat.le_of_ble_eq_true rfl) ⟨v2_2, v3_17, rfl, rfl, Rt28, by omega⟩ (fun r32 t34 pr32 => ?_)
              obtain ⟨rfl, Rt34, Ft34⟩ := pr32 _ _ rfl
              have Ff36 := pm_Fr_tr Ff30 Ft34 (M := [(31, some 1), (32, none), (33, none)]) rfl
              have k37 : t34 31 0 1 = x1 := (Ft34 31 0 1 rfl).trans k31
              show G 31 [some (.inr (.inr (31, 0))), some (.inl n1), some (.inl v2_2), some (.inl v3_17)] [] 122 t34
              refine px_iinc hG dX7_learn_31 (Nat.le_of_ble_eq_true rfl) rfl (L2 := [some (.inr (.inr (31, 0))), some (.inl n1), some (.inl v2_2), some (.inl (v3_17 + 1))]) rfl ?_
              refine px_goto hG dX7_learn_34 (tgt := 14) (by decide) ?_
              exact ih21 (v3_17 + 1) t34 Rt34 Ff36 k37 (by omega) (by omega)
        exact L14 _ 1 s3 R4 F5 k7 (by omega) (Nat.lt_succ_self _)
  exact L7 _ (x1 + 1) s0 R0 pm_Fr_rf ex1 (by omega) (Nat.lt_succ_self _))
def pre_X7_withGoes (as : List pm_V) (n : Nat) (σ : pm_H) : Prop := ∃ n1 vv : Int, as = [.inr (.inr (31, 0)), .inl n1, .inl vv] ∧ n = 122 ∧ pm_Rng σ ∧ (1 ≤ n1 ∧ n1 ≤ 10 ∧ pm_in vv)
def po_X7_withGoes (as : List pm_V) (_ : Nat) (σ : pm_H) (r : Option pm_V) (τ : pm_H) : Prop := ∀ n1 vv : Int, as = [.inr (.inr (31, 0)), .inl n1, .inl vv] → ∃ v : Int, r = some (.inr (.inl v)) ∧ pm_Rng τ ∧ pm_Fr [(31, some 1), (32, none), (33, none)] σ τ
set_option maxRecDepth 20000 in
set_option maxHeartbeats 4000000 in
theorem ct_X7_withGoes : pm_Ct yX7_withGoes cX7_withGoes 3 (some .long) 3 0 pre_X7_withGoes po_X7_withGoes := pm_sound (ini := false) (by decide +kernel) pk_X7_withGoes (fun h => absurd h (by decide)) (by
  rintro as n s0 ⟨n1, vv, rfl, rfl, R0, hpre⟩
  refine ⟨by decide, Nat.le_of_ble_eq_true rfl, fun G hG => ?_⟩
  have hG : pm_Rules (RX7, 3, 122, cX7_withGoes, -1, (fun _ => 0), false, (some .long), po_X7_withGoes [.inr (.inr (31, 0)), .inl n1, .inl vv] 122 s0) G := hG
  show G 0 [some (.inr (.inr (31, 0))), some (.inl n1), some (.inl vv)] [] 122 s0
  refine px_aload_n hG dX7_withGoes_0 rfl ?_
  refine px_iload_n hG dX7_withGoes_1 rfl ?_
  refine jv1 hG dX7_withGoes_2 ct_X7_learn lk_X7_31 ⟨rfl, rfl⟩ (by decide) ⟨Nat.le_of_ble_eq_true rfl, Nat.le_of_ble_eq_true rfl, Nat.le_of_ble_eq_true rfl⟩ (Nat.le_of_ble_eq_true rfl) ⟨n1, rfl, rfl, R0, by omega⟩ (fun r1 t3 pr1 => ?_)
  obtain ⟨rfl, Rt3, Ft3⟩ := pr1 _ rfl
  have Ff5 := pm_Fr_mono Ft3 (M := [(31, some 1), (32, none), (33, none)]) rfl
  show G 5 [some (.inr (.inr (31, 0))), some (.inl n1), some (.inl vv)] [] 122 t3
  refine px_iload_n hG dX7_withGoes_5 rfl ?_
  refine px_if_lt hG dX7_withGoes_6 (tgt := 15) (by decide) ⟨by omega, by omega⟩ (fun c6 => ?_) (fun c6 => ?_)
  · refine px_lconst hG dX7_withGoes_15 ?_
    show G 16 [some (.inr (.inr (31, 0))), some (.inl n1), some (.inl vv)] [.inr (.inl 0)] 122 t3
    refine px_goto hG dX7_withGoes_16 (tgt := 27) (by decide) ?_
    exact px_lret (st := []) hG dX7_withGoes_27 rfl rfl (fun n1_1 vv_1 ee => by cases ee; exact ⟨_, rfl, Rt3, Ff5⟩)
  · refine px_iload_n hG dX7_withGoes_9 rfl ?_
    refine px_bipush hG dX7_withGoes_10 (by decide) ?_
    refine px_ic_le hG dX7_withGoes_12 (tgt := 19) (by decide) ⟨by omega, by omega⟩ ⟨by omega, by omega⟩ (fun c7 => ?_) (fun c7 => ?_)
    · refine px_aload_n hG dX7_withGoes_19 rfl ?_
      refine gr_31_2 hG dX7_withGoes_20 fl_X7_17 Rt3 ?_
      refine px_iload_n hG dX7_withGoes_23 rfl ?_
      refine aa_32 hG dX7_withGoes_24 (by omega) ?_
      refine px_iload_n hG dX7_withGoes_25 rfl ?_
      refine al_32 hG dX7_withGoes_26 (by omega) (by omega) (fun z8 ez8 => ?_)
      exact px_lret (st := []) hG dX7_withGoes_27 rfl rfl (fun n1_1 vv_1 ee => by cases ee; exact ⟨_, rfl, Rt3, Ff5⟩)
    · refine px_lconst hG dX7_withGoes_15 ?_
      show G 16 [some (.inr (.inr (31, 0))), some (.inl n1), some (.inl vv)] [.inr (.inl 0)] 122 t3
      refine px_goto hG dX7_withGoes_16 (tgt := 27) (by decide) ?_
      exact px_lret (st := []) hG dX7_withGoes_27 rfl rfl (fun n1_1 vv_1 ee => by cases ee; exact ⟨_, rfl, Rt3, Ff5⟩))
def pre_X7_withLucky (as : List pm_V) (n : Nat) (σ : pm_H) : Prop := ∃ n1 vv : Int, as = [.inr (.inr (31, 0)), .inl n1, .inl vv] ∧ n = 122 ∧ pm_Rng σ ∧ (1 ≤ n1 ∧ n1 ≤ 10 ∧ pm_in vv)
def po_X7_withLucky (as : List pm_V) (_ : Nat) (σ : pm_H) (r : Option pm_V) (τ : pm_H) : Prop := ∀ n1 vv : Int, as = [.inr (.inr (31, 0)), .inl n1, .inl vv] → ∃ v : Int, r = some (.inr (.inl v)) ∧ pm_Rng τ ∧ pm_Fr [(31, some 1), (32, none), (33, none)] σ τ
set_option maxRecDepth 20000 in
set_option maxHeartbeats 4000000 in
theorem ct_X7_withLucky : pm_Ct yX7_withLucky cX7_withLucky 3 (some .long) 3 0 pre_X7_withLucky po_X7_withLucky := pm_sound (ini := false) (by decide +kernel) pk_X7_withLucky (fun h => absurd h (by decide)) (by
  rintro as n s0 ⟨n1, vv, rfl, rfl, R0, hpre⟩
  refine ⟨by decide, Nat.le_of_ble_eq_true rfl, fun G hG => ?_⟩
  have hG : pm_Rules (RX7, 3, 122, cX7_withLucky, -1, (fun _ => 0), false, (some .long), po_X7_withLucky [.inr (.inr (31, 0)), .inl n1, .inl vv] 122 s0) G := hG
  show G 0 [some (.inr (.inr (31, 0))), some (.inl n1), some (.inl vv)] [] 122 s0
  refine px_aload_n hG dX7_withLucky_0 rfl ?_
  refine px_iload_n hG dX7_withLucky_1 rfl ?_
  refine jv1 hG dX7_withLucky_2 ct_X7_learn lk_X7_31 ⟨rfl, rfl⟩ (by decide) ⟨Nat.le_of_ble_eq_true rfl, Nat.le_of_ble_eq_true rfl, Nat.le_of_ble_eq_true rfl⟩ (Nat.le_of_ble_eq_true rfl) ⟨n1, rfl, rfl, R0, by omega⟩ (fun r1 t3 pr1 => ?_)
  obtain ⟨rfl, Rt3, Ft3⟩ := pr1 _ rfl
  have Ff5 := pm_Fr_mono Ft3 (M := [(31, some 1), (32, none), (33, none)]) rfl
  show G 5 [some (.inr (.inr (31, 0))), some (.inl n1), some (.inl vv)] [] 122 t3
  refine px_iload_n hG dX7_withLucky_5 rfl ?_
  refine px_if_lt hG dX7_withLucky_6 (tgt := 14) (by decide) ⟨by omega, by omega⟩ (fun c6 => ?_) (fun c6 => ?_)
  · refine px_lconst hG dX7_withLucky_14 ?_
    show G 15 [some (.inr (.inr (31, 0))), some (.inl n1), some (.inl vv)] [.inr (.inl 0)] 122 t3
    refine px_goto hG dX7_withLucky_15 (tgt := 26) (by decide) ?_
    exact px_lret (st := []) hG dX7_withLucky_26 rfl rfl (fun n1_1 vv_1 ee => by cases ee; exact ⟨_, rfl, Rt3, Ff5⟩)
  · refine px_iload_n hG dX7_withLucky_9 rfl ?_
    refine px_iload_n hG dX7_withLucky_10 rfl ?_
    refine px_ic_le hG dX7_withLucky_11 (tgt := 18) (by decide) ⟨by omega, by omega⟩ ⟨by omega, by omega⟩ (fun c7 => ?_) (fun c7 => ?_)
    · refine px_aload_n hG dX7_withLucky_18 rfl ?_
      refine gr_31_3 hG dX7_withLucky_19 fl_X7_20 Rt3 ?_
      refine px_iload_n hG dX7_withLucky_22 rfl ?_
      refine aa_33 hG dX7_withLucky_23 (by omega) ?_
      refine px_iload_n hG dX7_withLucky_24 rfl ?_
      refine al_33 hG dX7_withLucky_25 (by omega) (by omega) (fun z8 ez8 => ?_)
      exact px_lret (st := []) hG dX7_withLucky_26 rfl rfl (fun n1_1 vv_1 ee => by cases ee; exact ⟨_, rfl, Rt3, Ff5⟩)
    · refine px_lconst hG dX7_withLucky_14 ?_
      show G 15 [some (.inr (.inr (31, 0))), some (.inl n1), some (.inl vv)] [.inr (.inl 0)] 122 t3
      refine px_goto hG dX7_withLucky_15 (tgt := 26) (by decide) ?_
      exact px_lret (st := []) hG dX7_withLucky_26 rfl rfl (fun n1_1 vv_1 ee => by cases ee; exact ⟨_, rfl, Rt3, Ff5⟩))
def pre_X7_withLastAt (as : List pm_V) (n : Nat) (σ : pm_H) : Prop := ∃ n1 vv : Int, as = [.inr (.inr (31, 0)), .inl n1, .inl vv] ∧ n = 122 ∧ pm_Rng σ ∧ (1 ≤ n1 ∧ n1 ≤ 10 ∧ pm_in vv)
def po_X7_withLastAt (as : List pm_V) (_ : Nat) (σ : pm_H) (r : Option pm_V) (τ : pm_H) : Prop := ∀ n1 vv : Int, as = [.inr (.inr (31, 0)), .inl n1, .inl vv] → ∃ v : Int, r = some (.inr (.inl v)) ∧ σ = τ
set_option maxRecDepth 20000 in
set_option maxHeartbeats 4000000 in
theorem ct_X7_withLastAt : pm_Ct yX7_withLastAt cX7_withLastAt 3 (some .long) 3 0 pre_X7_withLastAt po_X7_withLastAt := pm_sound (ini := false) (by decide +kernel) pk_X7_withLastAt (fun h => absurd h (by decide)) (by
  rintro as n s0 ⟨n1, vv, rfl, rfl, R0, hpre⟩
  refine ⟨by decide, Nat.le_of_ble_eq_true rfl, fun G hG => ?_⟩
  have hG : pm_Rules (RX7, 3, 122, cX7_withLastAt, -1, (fun _ => 0), false, (some .long), po_X7_withLastAt [.inr (.inr (31, 0)), .inl n1, .inl vv] 122 s0) G := hG
  show G 0 [some (.inr (.inr (31, 0))), some (.inl n1), some (.inl vv)] [] 122 s0
  refine px_iload_n hG dX7_withLastAt_0 rfl ?_
  refine px_iconst hG dX7_withLastAt_1 ?_
  refine px_ic_lt hG dX7_withLastAt_2 (tgt := 10) (by decide) ⟨by omega, by omega⟩ ⟨by omega, by omega⟩ (fun c1 => ?_) (fun c1 => ?_)
  · refine px_lconst hG dX7_withLastAt_10 ?_
    show G 11 [some (.inr (.inr (31, 0))), some (.inl n1), some (.inl vv)] [.inr (.inl 0)] 122 s0
    refine px_goto hG dX7_withLastAt_11 (tgt := 23) (by decide) ?_
    exact px_lret (st := []) hG dX7_withLastAt_23 rfl rfl (fun n1_1 vv_1 ee => by cases ee; exact ⟨_, rfl, rfl⟩)
  · refine px_iload_n hG dX7_withLastAt_5 rfl ?_
    refine px_iload_n hG dX7_withLastAt_6 rfl ?_
    refine px_ic_le hG dX7_withLastAt_7 (tgt := 14) (by decide) ⟨by omega, by omega⟩ ⟨by omega, by omega⟩ (fun c2 => ?_) (fun c2 => ?_)
    · refine px_iload_n hG dX7_withLastAt_14 rfl ?_
      refine px_i2l hG dX7_withLastAt_15 ⟨by omega, by omega⟩ ?_
      refine px_aload_n hG dX7_withLastAt_16 rfl ?_
      refine px_iload_n hG dX7_withLastAt_17 rfl ?_
      refine px_iload_n hG dX7_withLastAt_18 rfl ?_
      refine jv2 hG dX7_withLastAt_19 ct_X7_sidesOf lk_X7_35 ⟨rfl, rfl⟩ (by decide) ⟨Nat.le_of_ble_eq_true rfl, Nat.le_of_ble_eq_true rfl, Nat.le_of_ble_eq_true rfl⟩ (Nat.le_of_ble_eq_true rfl) ⟨n1, vv, rfl, rfl, R0, by omega⟩ (fun r3 t4 pr3 => ?_)
      obtain ⟨z5, rfl, rfl⟩ := pr3 _ _ rfl
      show G 22 [some (.inr (.inr (31, 0))), some (.inl n1), some (.inl vv)] [.inr (.inl z5), .inr (.inl vv)] 122 s0
      refine px_lmul hG dX7_withLastAt_22 ?_
      exact px_lret (st := []) hG dX7_withLastAt_23 rfl rfl (fun n1_1 vv_1 ee => by cases ee; exact ⟨_, rfl, rfl⟩)
    · refine px_lconst hG dX7_withLastAt_10 ?_
      show G 11 [some (.inr (.inr (31, 0))), some (.inl n1), some (.inl vv)] [.inr (.inl 0)] 122 s0
      refine px_goto hG dX7_withLastAt_11 (tgt := 23) (by decide) ?_
      exact px_lret (st := []) hG dX7_withLastAt_23 rfl rfl (fun n1_1 vv_1 ee => by cases ee; exact ⟨_, rfl, rfl⟩))
def pre_X7_withFirstWish (as : List pm_V) (n : Nat) (σ : pm_H) : Prop := ∃ n1 vv : Int, as = [.inr (.inr (31, 0)), .inl n1, .inl vv] ∧ n = 122 ∧ pm_Rng σ ∧ (1 ≤ n1 ∧ n1 ≤ 10 ∧ pm_in vv)
def po_X7_withFirstWish (as : List pm_V) (_ : Nat) (σ : pm_H) (r : Option pm_V) (τ : pm_H) : Prop := ∀ n1 vv : Int, as = [.inr (.inr (31, 0)), .inl n1, .inl vv] → ∃ v : Int, r = some (.inr (.inl v)) ∧ σ = τ
set_option maxRecDepth 20000 in
set_option maxHeartbeats 4000000 in
theorem ct_X7_withFirstWish : pm_Ct yX7_withFirstWish cX7_withFirstWish 6 (some .long) 3 0 pre_X7_withFirstWish po_X7_withFirstWish := pm_sound (ini := false) (by decide +kernel) pk_X7_withFirstWish (fun h => absurd h (by decide)) (by
  rintro as n s0 ⟨n1, vv, rfl, rfl, R0, hpre⟩
  refine ⟨by decide, Nat.le_of_ble_eq_true rfl, fun G hG => ?_⟩
  have hG : pm_Rules (RX7, 3, 122, cX7_withFirstWish, -1, (fun _ => 0), false, (some .long), po_X7_withFirstWish [.inr (.inr (31, 0)), .inl n1, .inl vv] 122 s0) G := hG
  show G 0 [some (.inr (.inr (31, 0))), some (.inl n1), some (.inl vv), none, none, none] [] 122 s0
  refine px_lconst hG dX7_withFirstWish_0 ?_
  show G 1 [some (.inr (.inr (31, 0))), some (.inl n1), some (.inl vv), none, none, none] [.inr (.inl 0)] 122 s0
  refine px_lstore_n hG dX7_withFirstWish_1 (Nat.le_of_ble_eq_true rfl) (L2 := [some (.inr (.inr (31, 0))), some (.inl n1), some (.inl vv), some (.inr (.inl 0)), none, none]) rfl ?_
  refine px_iload_n hG dX7_withFirstWish_2 rfl ?_
  refine px_iconst hG dX7_withFirstWish_3 ?_
  refine px_max hG dX7_withFirstWish_4 lm_X7_39 (Nat.le_of_ble_eq_true rfl) (Nat.le_of_ble_eq_true rfl) ⟨⟨by omega, by omega⟩, ⟨by omega, by omega⟩⟩ (fun x1 bx1 => ?_)
  refine px_istore hG dX7_withFirstWish_7 (Nat.le_of_ble_eq_true rfl) (L2 := [some (.inr (.inr (31, 0))), some (.inl n1), some (.inl vv), some (.inr (.inl 0)), none, some (.inl x1)]) rfl ?_
  have L9 : ∀ (N : Nat) (v3_2 : Int) (v5_3 : Int), ((1 ≤ v5_3 ∧ v5_3 ≤ 2147483647)) → (11 - v5_3).toNat < N → G 9 [some (.inr (.inr (31, 0))), some (.inl n1), some (.inl vv), some (.inr (.inl v3_2)), none, some (.inl v5_3)] [] 122 s0 := by
    intro N
    induction N with
    | zero => intro v3_2 v5_3 inv5 hm6; exact absurd hm6 (Nat.not_lt_zero _)
    | succ N ih4 =>
      intro v3_2 v5_3 inv5 hm6
      refine px_iload_n hG dX7_withFirstWish_9 rfl ?_
      refine px_iconst hG dX7_withFirstWish_10 ?_
      refine px_ic_lt hG dX7_withFirstWish_11 (tgt := 36) (by decide) ⟨by omega, by omega⟩ ⟨by omega, by omega⟩ (fun c7 => ?_) (fun c7 => ?_)
      · refine px_lload_n hG dX7_withFirstWish_36 rfl ?_
        exact px_lret (st := []) hG dX7_withFirstWish_37 rfl rfl (fun n1_1 vv_1 ee => by cases ee; exact ⟨_, rfl, rfl⟩)
      · refine px_iload hG dX7_withFirstWish_14 rfl ?_
        refine px_iload_n hG dX7_withFirstWish_16 rfl ?_
        refine px_ic_gt hG dX7_withFirstWish_17 (tgt := 36) (by decide) ⟨by omega, by omega⟩ ⟨by omega, by omega⟩ (fun c8 => ?_) (fun c8 => ?_)
        · refine px_lload_n hG dX7_withFirstWish_36 rfl ?_
          exact px_lret (st := []) hG dX7_withFirstWish_37 rfl rfl (fun n1_1 vv_1 ee => by cases ee; exact ⟨_, rfl, rfl⟩)
        · refine px_lload_n hG dX7_withFirstWish_20 rfl ?_
          refine px_aload_n hG dX7_withFirstWish_21 rfl ?_
          refine px_iload_n hG dX7_withFirstWish_22 rfl ?_
          refine px_iload hG dX7_withFirstWish_23 rfl ?_
          refine jv2 hG dX7_withFirstWish_25 ct_X7_sidesOf lk_X7_35 ⟨rfl, rfl⟩ (by decide) ⟨Nat.le_of_ble_eq_true rfl, Nat.le_of_ble_eq_true rfl, Nat.le_of_ble_eq_true rfl⟩ (Nat.le_of_ble_eq_true rfl) ⟨n1, v5_3, rfl, rfl, R0, by omega⟩ (fun r9 t10 pr9 => ?_)
          obtain ⟨z11, rfl, rfl⟩ := pr9 _ _ rfl
          show G 28 [some (.inr (.inr (31, 0))), some (.inl n1), some (.inl vv), some (.inr (.inl v3_2)), none, some (.inl v5_3)] [.inr (.inl z11), .inr (.inl v3_2)] 122 s0
          refine px_ladd hG dX7_withFirstWish_28 ?_
          refine px_lstore_n hG dX7_withFirstWish_29 (Nat.le_of_ble_eq_true rfl) (L2 := [some (.inr (.inr (31, 0))), some (.inl n1), some (.inl vv), some (.inr (.inl (v3_2 + z11))), none, some (.inl v5_3)]) rfl ?_
          refine px_iinc hG dX7_withFirstWish_30 (Nat.le_of_ble_eq_true rfl) rfl (L2 := [some (.inr (.inr (31, 0))), some (.inl n1), some (.inl vv), some (.inr (.inl (v3_2 + z11))), none, some (.inl (v5_3 + 1))]) rfl ?_
          refine px_goto hG dX7_withFirstWish_33 (tgt := 9) (by decide) ?_
          exact ih4 (v3_2 + z11) (v5_3 + 1) (by omega) (by omega)
  exact L9 _ 0 x1 (by omega) (Nat.lt_succ_self _))
def pre_X7_withOnes (as : List pm_V) (n : Nat) (σ : pm_H) : Prop := ∃ n1 vv : Int, as = [.inr (.inr (31, 0)), .inl n1, .inl vv] ∧ n = 122 ∧ pm_Rng σ ∧ (1 ≤ n1 ∧ n1 ≤ 10 ∧ pm_in vv)
def po_X7_withOnes (as : List pm_V) (_ : Nat) (σ : pm_H) (r : Option pm_V) (τ : pm_H) : Prop := ∀ n1 vv : Int, as = [.inr (.inr (31, 0)), .inl n1, .inl vv] → ∃ v : Int, r = some (.inr (.inl v)) ∧ σ = τ
set_option maxRecDepth 20000 in
set_option maxHeartbeats 4000000 in
theorem ct_X7_withOnes : pm_Ct yX7_withOnes cX7_withOnes 3 (some .long) 1 0 pre_X7_withOnes po_X7_withOnes := pm_sound (ini := false) (by decide +kernel) pk_X7_withOnes (fun h => absurd h (by decide)) (by
  rintro as n s0 ⟨n1, vv, rfl, rfl, R0, hpre⟩
  refine ⟨by decide, Nat.le_of_ble_eq_true rfl, fun G hG => ?_⟩
  have hG : pm_Rules (RX7, 1, 122, cX7_withOnes, -1, (fun _ => 0), false, (some .long), po_X7_withOnes [.inr (.inr (31, 0)), .inl n1, .inl vv] 122 s0) G := hG
  show G 0 [some (.inr (.inr (31, 0))), some (.inl n1), some (.inl vv)] [] 122 s0
  refine px_iload_n hG dX7_withOnes_0 rfl ?_
  refine px_iconst hG dX7_withOnes_1 ?_
  refine px_ic_lt hG dX7_withOnes_2 (tgt := 10) (by decide) ⟨by omega, by omega⟩ ⟨by omega, by omega⟩ (fun c1 => ?_) (fun c1 => ?_)
  · refine px_lconst hG dX7_withOnes_10 ?_
    show G 11 [some (.inr (.inr (31, 0))), some (.inl n1), some (.inl vv)] [.inr (.inl 0)] 122 s0
    refine px_goto hG dX7_withOnes_11 (tgt := 37) (by decide) ?_
    exact px_lret (st := []) hG dX7_withOnes_37 rfl rfl (fun n1_1 vv_1 ee => by cases ee; exact ⟨_, rfl, rfl⟩)
  · refine px_iload_n hG dX7_withOnes_5 rfl ?_
    refine px_iload_n hG dX7_withOnes_6 rfl ?_
    refine px_ic_le hG dX7_withOnes_7 (tgt := 14) (by decide) ⟨by omega, by omega⟩ ⟨by omega, by omega⟩ (fun c2 => ?_) (fun c2 => ?_)
    · refine px_aload_n hG dX7_withOnes_14 rfl ?_
      refine gr_31_0 hG dX7_withOnes_15 fl_X7_27 R0 ?_
      refine px_iload_n hG dX7_withOnes_18 rfl ?_
      refine px_iconst hG dX7_withOnes_19 ?_
      refine px_isub hG dX7_withOnes_20 ?_
      refine px_iload_n hG dX7_withOnes_21 rfl ?_
      refine px_iconst hG dX7_withOnes_22 ?_
      refine px_isub hG dX7_withOnes_23 ?_
      refine jv2 hG dX7_withOnes_24 ct_X1_of lk_X7_45 ⟨rfl, rfl⟩ (by decide) ⟨Nat.le_of_ble_eq_true rfl, Nat.le_of_ble_eq_true rfl, Nat.le_of_ble_eq_true rfl⟩ (Nat.le_of_ble_eq_true rfl) ⟨(n1 - 1), (vv - 1), rfl, rfl, R0, by omega⟩ (fun r3 t4 pr3 => ?_)
      obtain ⟨x5, rfl, rfl, br3⟩ := pr3 _ _ rfl
      show G 27 [some (.inr (.inr (31, 0))), some (.inl n1), some (.inl vv)] [.inl x5] 122 s0
      refine px_i2l hG dX7_withOnes_27 ⟨by omega, by omega⟩ ?_
      refine px_iload_n hG dX7_withOnes_28 rfl ?_
      refine px_i2l hG dX7_withOnes_29 ⟨by omega, by omega⟩ ?_
      refine px_iload_n hG dX7_withOnes_30 rfl ?_
      refine px_iload_n hG dX7_withOnes_31 rfl ?_
      refine px_isub hG dX7_withOnes_32 ?_
      refine js2 hG dX7_withOnes_33 ct_X10_power lk_X7_50 ⟨Nat.le_of_ble_eq_true rfl, Nat.le_of_ble_eq_true rfl, Nat.le_of_ble_eq_true rfl⟩ (Nat.le_of_ble_eq_true rfl) ⟨n1, (n1 - vv), rfl, rfl, R0, by omega⟩ (fun r6 t7 pr6 => ?_)
      obtain ⟨z8, rfl, rfl⟩ := pr6 _ _ rfl
      show G 36 [some (.inr (.inr (31, 0))), some (.inl n1), some (.inl vv)] [.inr (.inl z8), .inr (.inl x5)] 122 s0
      refine px_lmul hG dX7_withOnes_36 ?_
      exact px_lret (st := []) hG dX7_withOnes_37 rfl rfl (fun n1_1 vv_1 ee => by cases ee; exact ⟨_, rfl, rfl⟩)
    · refine px_lconst hG dX7_withOnes_10 ?_
      show G 11 [some (.inr (.inr (31, 0))), some (.inl n1), some (.inl vv)] [.inr (.inl 0)] 122 s0
      refine px_goto hG dX7_withOnes_11 (tgt := 37) (by decide) ?_
      exact px_lret (st := []) hG dX7_withOnes_37 rfl rfl (fun n1_1 vv_1 ee => by cases ee; exact ⟨_, rfl, rfl⟩))
def pre_X7_withOnePartMore (as : List pm_V) (n : Nat) (σ : pm_H) : Prop := ∃ m1 : Int, as = [.inr (.inr (31, 0)), .inl m1] ∧ n = 122 ∧ pm_Rng σ ∧ (0 ≤ m1 ∧ m1 ≤ 10)
def po_X7_withOnePartMore (as : List pm_V) (_ : Nat) (σ : pm_H) (r : Option pm_V) (τ : pm_H) : Prop := ∀ m1 : Int, as = [.inr (.inr (31, 0)), .inl m1] → ∃ v : Int, r = some (.inr (.inl v)) ∧ σ = τ
set_option maxRecDepth 20000 in
set_option maxHeartbeats 4000000 in
theorem ct_X7_withOnePartMore : pm_Ct yX7_withOnePartMore cX7_withOnePartMore 5 (some .long) 1 0 pre_X7_withOnePartMore po_X7_withOnePartMore := pm_sound (ini := false) (by decide +kernel) pk_X7_withOnePartMore (fun h => absurd h (by decide)) (by
  rintro as n s0 ⟨m1, rfl, rfl, R0, hpre⟩
  refine ⟨by decide, Nat.le_of_ble_eq_true rfl, fun G hG => ?_⟩
  have hG : pm_Rules (RX7, 1, 122, cX7_withOnePartMore, -1, (fun _ => 0), false, (some .long), po_X7_withOnePartMore [.inr (.inr (31, 0)), .inl m1] 122 s0) G := hG
  show G 0 [some (.inr (.inr (31, 0))), some (.inl m1), none, none, none] [] 122 s0
  refine px_lconst hG dX7_withOnePartMore_0 ?_
  show G 1 [some (.inr (.inr (31, 0))), some (.inl m1), none, none, none] [.inr (.inl 0)] 122 s0
  refine px_lstore_n hG dX7_withOnePartMore_1 (Nat.le_of_ble_eq_true rfl) (L2 := [some (.inr (.inr (31, 0))), some (.inl m1), some (.inr (.inl 0)), none, none]) rfl ?_
  refine px_iconst hG dX7_withOnePartMore_2 ?_
  refine px_istore hG dX7_withOnePartMore_3 (Nat.le_of_ble_eq_true rfl) (L2 := [some (.inr (.inr (31, 0))), some (.inl m1), some (.inr (.inl 0)), none, some (.inl 1)]) rfl ?_
  have L5 : ∀ (N : Nat) (v2_1 : Int) (v4_2 : Int), ((1 ≤ v4_2 ∧ v4_2 ≤ 10000)) → (10001 - v4_2).toNat < N → G 5 [some (.inr (.inr (31, 0))), some (.inl m1), some (.inr (.inl v2_1)), none, some (.inl v4_2)] [] 122 s0 := by
    intro N
    induction N with
    | zero => intro v2_1 v4_2 inv4 hm5; exact absurd hm5 (Nat.not_lt_zero _)
    | succ N ih3 =>
      intro v2_1 v4_2 inv4 hm5
      refine px_iload hG dX7_withOnePartMore_5 rfl ?_
      refine px_iload_n hG dX7_withOnePartMore_7 rfl ?_
      refine px_ic_gt hG dX7_withOnePartMore_8 (tgt := 54) (by decide) ⟨by omega, by omega⟩ ⟨by omega, by omega⟩ (fun c6 => ?_) (fun c6 => ?_)
      · refine px_lload_n hG dX7_withOnePartMore_54 rfl ?_
        exact px_lret (st := []) hG dX7_withOnePartMore_55 rfl rfl (fun m1_1 ee => by cases ee; exact ⟨_, rfl, rfl⟩)
      · refine px_lload_n hG dX7_withOnePartMore_11 rfl ?_
        refine px_aload_n hG dX7_withOnePartMore_12 rfl ?_
        refine gr_31_0 hG dX7_withOnePartMore_13 fl_X7_27 R0 ?_
        refine px_iload_n hG dX7_withOnePartMore_16 rfl ?_
        refine px_iload hG dX7_withOnePartMore_17 rfl ?_
        refine jv2 hG dX7_withOnePartMore_19 ct_X1_of lk_X7_45 ⟨rfl, rfl⟩ (by decide) ⟨Nat.le_of_ble_eq_true rfl, Nat.le_of_ble_eq_true rfl, Nat.le_of_ble_eq_true rfl⟩ (Nat.le_of_ble_eq_true rfl) ⟨m1, v4_2, rfl, rfl, R0, by omega⟩ (fun r7 t8 pr7 => ?_)
        obtain ⟨x9, rfl, rfl, br7⟩ := pr7 _ _ rfl
        show G 22 [some (.inr (.inr (31, 0))), some (.inl m1), some (.inr (.inl v2_1)), none, some (.inl v4_2)] [.inl x9, .inr (.inl v2_1)] 122 s0
        refine px_i2l hG dX7_withOnePartMore_22 ⟨by omega, by omega⟩ ?_
        refine px_iload hG dX7_withOnePartMore_23 rfl ?_
        refine px_iconst hG dX7_withOnePartMore_25 ?_
        refine px_isub hG dX7_withOnePartMore_26 ?_
        refine px_i2l hG dX7_withOnePartMore_27 ⟨by omega, by omega⟩ ?_
        refine px_iload hG dX7_withOnePartMore_28 rfl ?_
        refine px_iconst hG dX7_withOnePartMore_30 ?_
        refine px_isub hG dX7_withOnePartMore_31 ?_
        refine js2 hG dX7_withOnePartMore_32 ct_X10_power lk_X7_50 ⟨Nat.le_of_ble_eq_true rfl, Nat.le_of_ble_eq_true rfl, Nat.le_of_ble_eq_true rfl⟩ (Nat.le_of_ble_eq_true rfl) ⟨(v4_2 - 1), (v4_2 - 1), rfl, rfl, R0, by omega⟩ (fun r10 t11 pr10 => ?_)
        obtain ⟨z12, rfl, rfl⟩ := pr10 _ _ rfl
        show G 35 [some (.inr (.inr (31, 0))), some (.inl m1), some (.inr (.inl v2_1)), none, some (.inl v4_2)] [.inr (.inl z12), .inr (.inl x9), .inr (.inl v2_1)] 122 s0
        refine px_lmul hG dX7_withOnePartMore_35 ?_
        refine px_aload_n hG dX7_withOnePartMore_36 rfl ?_
        refine gr_31_4 hG dX7_withOnePartMore_37 fl_X7_23 R0 ?_
        refine px_iload_n hG dX7_withOnePartMore_40 rfl ?_
        refine px_iload hG dX7_withOnePartMore_41 rfl ?_
        refine px_isub hG dX7_withOnePartMore_43 ?_
        refine al_34 hG dX7_withOnePartMore_44 (by omega) (fun z13 ez13 => ?_)
        refine px_lmul hG dX7_withOnePartMore_45 ?_
        refine px_ladd hG dX7_withOnePartMore_46 ?_
        refine px_lstore_n hG dX7_withOnePartMore_47 (Nat.le_of_ble_eq_true rfl) (L2 := [some (.inr (.inr (31, 0))), some (.inl m1), some (.inr (.inl (v2_1 + ((x9 * z12) * z13)))), none, some (.inl v4_2)]) rfl ?_
        refine px_iinc hG dX7_withOnePartMore_48 (Nat.le_of_ble_eq_true rfl) rfl (L2 := [some (.inr (.inr (31, 0))), some (.inl m1), some (.inr (.inl (v2_1 + ((x9 * z12) * z13)))), none, some (.inl (v4_2 + 1))]) rfl ?_
        refine px_goto hG dX7_withOnePartMore_51 (tgt := 5) (by decide) ?_
        exact ih3 (v2_1 + ((x9 * z12) * z13)) (v4_2 + 1) (by omega) (by omega)
  exact L5 _ 0 1 (by omega) (Nat.lt_succ_self _))
def pre_X7_withCuts (as : List pm_V) (n : Nat) (σ : pm_H) : Prop := ∃ n1 vv : Int, as = [.inr (.inr (31, 0)), .inl n1, .inl vv] ∧ n = 122 ∧ pm_Rng σ ∧ (1 ≤ n1 ∧ n1 ≤ 10 ∧ pm_in vv)
def po_X7_withCuts (as : List pm_V) (_ : Nat) (σ : pm_H) (r : Option pm_V) (τ : pm_H) : Prop := ∀ n1 vv : Int, as = [.inr (.inr (31, 0)), .inl n1, .inl vv] → ∃ v : Int, r = some (.inr (.inl v)) ∧ pm_Rng τ ∧ pm_Fr [(34, none)] σ τ
set_option maxRecDepth 20000 in
set_option maxHeartbeats 4000000 in
theorem ct_X7_withCuts : pm_Ct yX7_withCuts cX7_withCuts 5 (some .long) 2 0 pre_X7_withCuts po_X7_withCuts := pm_sound (ini := false) (by decide +kernel) pk_X7_withCuts (fun h => absurd h (by decide)) (by
  rintro as n s0 ⟨n1, vv, rfl, rfl, R0, hpre⟩
  refine ⟨by decide, Nat.le_of_ble_eq_true rfl, fun G hG => ?_⟩
  have hG : pm_Rules (RX7, 2, 122, cX7_withCuts, -1, (fun _ => 0), false, (some .long), po_X7_withCuts [.inr (.inr (31, 0)), .inl n1, .inl vv] 122 s0) G := hG
  show G 0 [some (.inr (.inr (31, 0))), some (.inl n1), some (.inl vv), none, none] [] 122 s0
  refine px_iload_n hG dX7_withCuts_0 rfl ?_
  refine px_if_lt hG dX7_withCuts_1 (tgt := 9) (by decide) ⟨by omega, by omega⟩ (fun c1 => ?_) (fun c1 => ?_)
  · refine px_lconst hG dX7_withCuts_9 ?_
    show G 10 [some (.inr (.inr (31, 0))), some (.inl n1), some (.inl vv), none, none] [.inr (.inl 0)] 122 s0
    exact px_lret (st := []) hG dX7_withCuts_10 rfl rfl (fun n1_1 vv_1 ee => by cases ee; exact ⟨_, rfl, R0, pm_Fr_rf⟩)
  · refine px_iload_n hG dX7_withCuts_4 rfl ?_
    refine px_iload_n hG dX7_withCuts_5 rfl ?_
    refine px_ic_lt hG dX7_withCuts_6 (tgt := 11) (by decide) ⟨by omega, by omega⟩ ⟨by omega, by omega⟩ (fun c2 => ?_) (fun c2 => ?_)
    · refine px_iconst hG dX7_withCuts_11 ?_
      refine px_istore_n hG dX7_withCuts_12 (Nat.le_of_ble_eq_true rfl) (L2 := [some (.inr (.inr (31, 0))), some (.inl n1), some (.inl vv), some (.inl 1), none]) rfl ?_
      have L13 : ∀ (N : Nat) (v3_3 : Int) (s4 : pm_H), pm_Rng s4 → pm_Fr [(34, none)] s0 s4 → ((1 ≤ v3_3 ∧ v3_3 ≤ 10000)) → (10001 - v3_3).toNat < N → G 13 [some (.inr (.inr (31, 0))), some (.inl n1), some (.inl vv), some (.inl v3_3), none] [] 122 s4 := by
        intro N
        induction N with
        | zero => intro v3_3 s4 R5 F6 inv8 hm9; exact absurd hm9 (Nat.not_lt_zero _)
        | succ N ih7 =>
          intro v3_3 s4 R5 F6 inv8 hm9
          refine px_iload_n hG dX7_withCuts_13 rfl ?_
          refine px_iload_n hG dX7_withCuts_14 rfl ?_
          have J31_11 : ((v3_3 > n1)) → G 31 [some (.inr (.inr (31, 0))), some (.inl n1), some (.inl vv), none, none] [] 122 s4 := by
            intro inv12
            refine px_aload_n hG dX7_withCuts_31 rfl ?_
            refine gr_31_4 hG dX7_withCuts_32 fl_X7_23 R5 ?_
            refine px_iconst hG dX7_withCuts_35 ?_
            refine px_lconst hG dX7_withCuts_36 ?_
            show G 37 [some (.inr (.inr (31, 0))), some (.inl n1), some (.inl vv), none, none] [.inr (.inl 1), .inl 0, .inr (.inr (34, 0))] 122 s4
            refine as_34 hG dX7_withCuts_37 R5 (by omega) (fun s13 qs13 Rs13 => ?_)
            have Fs13 := pm_Fr_up (F6) qs13 (M := [(34, none)]) rfl
            refine px_iconst hG dX7_withCuts_38 ?_
            refine px_istore_n hG dX7_withCuts_39 (Nat.le_of_ble_eq_true rfl) (L2 := [some (.inr (.inr (31, 0))), some (.inl n1), some (.inl vv), some (.inl 0), none]) rfl ?_
            have L40 : ∀ (N : Nat) (v3_14 : Int) (s15 : pm_H), pm_Rng s15 → pm_Fr [(34, none)] s0 s15 → ((0 ≤ v3_14 ∧ v3_14 ≤ 10000)) → (10001 - v3_14).toNat < N → G 40 [some (.inr (.inr (31, 0))), some (.inl n1), some (.inl vv), some (.inl v3_14), none] [] 122 s15 := by
              intro N
              induction N with
              | zero => intro v3_14 s15 R16 F17 inv19 hm20; exact absurd hm20 (Nat.not_lt_zero _)
              | succ N ih18 =>
                intro v3_14 s15 R16 F17 inv19 hm20
                refine px_iload_n hG dX7_withCuts_40 rfl ?_
                refine px_iload_n hG dX7_withCuts_41 rfl ?_
                refine px_ic_gt hG dX7_withCuts_42 (tgt := 78) (by decide) ⟨by omega, by omega⟩ ⟨by omega, by omega⟩ (fun c21 => ?_) (fun c21 => ?_)
                · refine px_aload_n hG dX7_withCuts_78 rfl ?_
                  refine gr_31_4 hG dX7_withCuts_79 fl_X7_23 R16 ?_
                  refine px_iload_n hG dX7_withCuts_82 rfl ?_
                  refine al_34 hG dX7_withCuts_83 (by omega) (fun z22 ez22 => ?_)
                  exact px_lret (st := []) hG dX7_withCuts_84 rfl rfl (fun n1_1 vv_1 ee => by cases ee; exact ⟨_, rfl, R16, F17⟩)
                · refine px_iload_n hG dX7_withCuts_45 rfl ?_
                  refine px_istore hG dX7_withCuts_46 (Nat.le_of_ble_eq_true rfl) (L2 := [some (.inr (.inr (31, 0))), some (.inl n1), some (.inl vv), some (.inl v3_14), some (.inl n1)]) rfl ?_
                  have L48 : ∀ (N : Nat) (v4_23 : Int) (s24 : pm_H), pm_Rng s24 → pm_Fr [(34, none)] s0 s24 → ((-10000 ≤ v4_23 ∧ v4_23 ≤ n1)) → (v4_23 + 10001).toNat < N → G 48 [some (.inr (.inr (31, 0))), some (.inl n1), some (.inl vv), some (.inl v3_14), some (.inl v4_23)] [] 122 s24 := by
                    intro N
                    induction N with
                    | zero => intro v4_23 s24 R25 F26 inv28 hm29; exact absurd hm29 (Nat.not_lt_zero _)
                    | succ N ih27 =>
                      intro v4_23 s24 R25 F26 inv28 hm29
                      refine px_iload hG dX7_withCuts_48 rfl ?_
                      refine px_if_lt hG dX7_withCuts_50 (tgt := 72) (by decide) ⟨by omega, by omega⟩ (fun c30 => ?_) (fun c30 => ?_)
                      · refine px_iinc hG dX7_withCuts_72 (Nat.le_of_ble_eq_true rfl) rfl (L2 := [some (.inr (.inr (31, 0))), some (.inl n1), some (.inl vv), some (.inl (v3_14 + 1)), some (.inl v4_23)]) rfl ?_
                        refine px_goto hG dX7_withCuts_75 (tgt := 40) (by decide) ?_
                        refine px_weak hG (L2 := [some (.inr (.inr (31, 0))), some (.inl n1), some (.inl vv), some (.inl (v3_14 + 1)), none]) ⟨Or.inr rfl, Or.inr rfl, Or.inr rfl, Or.inr rfl, Or.inl rfl, trivial⟩ ?_
                        exact ih18 (v3_14 + 1) s24 R25 F26 (by omega) (by omega)
                      · refine px_aload_n hG dX7_withCuts_53 rfl ?_
                        refine gr_31_4 hG dX7_withCuts_54 fl_X7_23 R25 ?_
                        refine px_iload hG dX7_withCuts_57 rfl ?_
                        refine px_aload_n hG dX7_withCuts_59 rfl ?_
                        refine px_iload hG dX7_withCuts_60 rfl ?_
                        refine jv1 hG dX7_withCuts_62 ct_X7_withOnePartMore lk_X7_54 ⟨rfl, rfl⟩ (by decide) ⟨Nat.le_of_ble_eq_true rfl, Nat.le_of_ble_eq_true rfl, Nat.le_of_ble_eq_true rfl⟩ (Nat.le_of_ble_eq_true rfl) ⟨v4_23, rfl, rfl, R25, by omega⟩ (fun r31 t32 pr31 => ?_)
                        obtain ⟨z33, rfl, rfl⟩ := pr31 _ rfl
                        show G 65 [some (.inr (.inr (31, 0))), some (.inl n1), some (.inl vv), some (.inl v3_14), some (.inl v4_23)] [.inr (.inl z33), .inl v4_23, .inr (.inr (34, 0))] 122 s24
                        refine as_34 hG dX7_withCuts_65 R25 (by omega) (fun s34 qs34 Rs34 => ?_)
                        have Fs34 := pm_Fr_up (F26) qs34 (M := [(34, none)]) rfl
                        refine px_iinc hG dX7_withCuts_66 (Nat.le_of_ble_eq_true rfl) rfl (L2 := [some (.inr (.inr (31, 0))), some (.inl n1), some (.inl vv), some (.inl v3_14), some (.inl (v4_23 + -1))]) rfl ?_
                        refine px_goto hG dX7_withCuts_69 (tgt := 48) (by decide) ?_
                        exact ih27 (v4_23 + -1) s34 Rs34 Fs34 (by omega) (by omega)
                  exact L48 _ n1 s15 R16 F17 (by omega) (Nat.lt_succ_self _)
            exact L40 _ 0 s13 Rs13 Fs13 (by omega) (Nat.lt_succ_self _)
          refine px_ic_gt hG dX7_withCuts_15 (tgt := 31) (by decide) ⟨by omega, by omega⟩ ⟨by omega, by omega⟩ (fun c10 => ?_) (fun c10 => ?_)
          · refine px_weak hG (L2 := [some (.inr (.inr (31, 0))), some (.inl n1), some (.inl vv), none, none]) ⟨Or.inr rfl, Or.inr rfl, Or.inr rfl, Or.inl rfl, Or.inr rfl, trivial⟩ ?_
            exact J31_11  (by omega)
          · refine px_aload_n hG dX7_withCuts_18 rfl ?_
            refine gr_31_4 hG dX7_withCuts_19 fl_X7_23 R5 ?_
            refine px_iload_n hG dX7_withCuts_22 rfl ?_
            refine px_lconst hG dX7_withCuts_23 ?_
            show G 24 [some (.inr (.inr (31, 0))), some (.inl n1), some (.inl vv), some (.inl v3_3), none] [.inr (.inl 0), .inl v3_3, .inr (.inr (34, 0))] 122 s4
            refine as_34 hG dX7_withCuts_24 R5 (by omega) (fun s35 qs35 Rs35 => ?_)
            have Fs35 := pm_Fr_up (F6) qs35 (M := [(34, none)]) rfl
            refine px_iinc hG dX7_withCuts_25 (Nat.le_of_ble_eq_true rfl) rfl (L2 := [some (.inr (.inr (31, 0))), some (.inl n1), some (.inl vv), some (.inl (v3_3 + 1)), none]) rfl ?_
            refine px_goto hG dX7_withCuts_28 (tgt := 13) (by decide) ?_
            exact ih7 (v3_3 + 1) s35 Rs35 Fs35 (by omega) (by omega)
      exact L13 _ 1 s0 R0 pm_Fr_rf (by omega) (Nat.lt_succ_self _)
    · refine px_lconst hG dX7_withCuts_9 ?_
      show G 10 [some (.inr (.inr (31, 0))), some (.inl n1), some (.inl vv), none, none] [.inr (.inl 0)] 122 s0
      exact px_lret (st := []) hG dX7_withCuts_10 rfl rfl (fun n1_1 vv_1 ee => by cases ee; exact ⟨_, rfl, R0, pm_Fr_rf⟩))
def pre_J6_bitCount_0f7a4 (as : List pm_V) (n : Nat) (σ : pm_H) : Prop := ∃ bb : Int, as = [.inl bb] ∧ n = 122 ∧ pm_Rng σ
def po_J6_bitCount_0f7a4 (as : List pm_V) (_ : Nat) (σ : pm_H) (r : Option pm_V) (τ : pm_H) : Prop := ∀ bb : Int, as = [.inl bb] → ∃ v : Int, r = some (.inl v) ∧ σ = τ ∧ (pm_in v)
set_option maxRecDepth 20000 in
set_option maxHeartbeats 4000000 in
theorem ct_J6_bitCount_0f7a4 : pm_Ct yJ6_bitCount_0f7a4 cJ6_bitCount_0f7a4 1 (some .int) 0 0 pre_J6_bitCount_0f7a4 po_J6_bitCount_0f7a4 := pm_sound (ini := false) (by decide +kernel) pk_J6_bitCount_0f7a4 (fun h => absurd h (by decide)) (by
  rintro as n s0 ⟨bb, rfl, rfl, R0⟩
  refine ⟨by decide, Nat.le_of_ble_eq_true rfl, fun G hG => ?_⟩
  have hG : pm_Rules (RJ6, 0, 122, cJ6_bitCount_0f7a4, -1, (fun _ => 0), false, (some .int), po_J6_bitCount_0f7a4 [.inl bb] 122 s0) G := hG
  show G 0 [some (.inl bb)] [] 122 s0
  refine px_iload_n hG dJ6_bitCount_0f7a4_0 rfl ?_
  refine px_iload_n hG dJ6_bitCount_0f7a4_1 rfl ?_
  refine px_iconst hG dJ6_bitCount_0f7a4_2 ?_
  refine px_iushr hG dJ6_bitCount_0f7a4_3 ?_
  generalize hx1 : pm_iushr bb 1 = x1
  have bx1 := pm_iushr_in bb 1 x1 hx1
  refine px_ldcw hG dJ6_bitCount_0f7a4_4 cn_J6_265 ?_
  show G 7 [some (.inl bb)] [.inl 1431655765, .inl x1, .inl bb] 122 s0
  refine px_iand hG dJ6_bitCount_0f7a4_7 ?_
  generalize hx2 : pm_iand x1 1431655765 = x2
  have bx2 := pm_iand_in x1 1431655765 x2 hx2
  refine px_isub hG dJ6_bitCount_0f7a4_8 ?_
  refine px_istore_n hG dJ6_bitCount_0f7a4_9 (Nat.le_of_ble_eq_true rfl) (L2 := [some (.inl (bb - x2))]) rfl ?_
  refine px_iload_n hG dJ6_bitCount_0f7a4_10 rfl ?_
  refine px_ldcw hG dJ6_bitCount_0f7a4_11 cn_J6_266 ?_
  show G 14 [some (.inl (bb - x2))] [.inl 858993459, .inl (bb - x2)] 122 s0
  refine px_iand hG dJ6_bitCount_0f7a4_14 ?_
  generalize hx3 : pm_iand (bb - x2) 858993459 = x3
  have bx3 := pm_iand_in (bb - x2) 858993459 x3 hx3
  refine px_iload_n hG dJ6_bitCount_0f7a4_15 rfl ?_
  refine px_iconst hG dJ6_bitCount_0f7a4_16 ?_
  refine px_iushr hG dJ6_bitCount_0f7a4_17 ?_
  generalize hx4 : pm_iushr (bb - x2) 2 = x4
  have bx4 := pm_iushr_in (bb - x2) 2 x4 hx4
  refine px_ldcw hG dJ6_bitCount_0f7a4_18 cn_J6_266 ?_
  show G 21 [some (.inl (bb - x2))] [.inl 858993459, .inl x4, .inl x3] 122 s0
  refine px_iand hG dJ6_bitCount_0f7a4_21 ?_
  generalize hx5 : pm_iand x4 858993459 = x5
  have bx5 := pm_iand_in x4 858993459 x5 hx5
  refine px_iadd hG dJ6_bitCount_0f7a4_22 ?_
  refine px_istore_n hG dJ6_bitCount_0f7a4_23 (Nat.le_of_ble_eq_true rfl) (L2 := [some (.inl (x3 + x5))]) rfl ?_
  refine px_iload_n hG dJ6_bitCount_0f7a4_24 rfl ?_
  refine px_iload_n hG dJ6_bitCount_0f7a4_25 rfl ?_
  refine px_iconst hG dJ6_bitCount_0f7a4_26 ?_
  refine px_iushr hG dJ6_bitCount_0f7a4_27 ?_
  generalize hx6 : pm_iushr (x3 + x5) 4 = x6
  have bx6 := pm_iushr_in (x3 + x5) 4 x6 hx6
  refine px_iadd hG dJ6_bitCount_0f7a4_28 ?_
  refine px_ldcw hG dJ6_bitCount_0f7a4_29 cn_J6_267 ?_
  show G 32 [some (.inl (x3 + x5))] [.inl 252645135, .inl ((x3 + x5) + x6)] 122 s0
  refine px_iand hG dJ6_bitCount_0f7a4_32 ?_
  generalize hx7 : pm_iand ((x3 + x5) + x6) 252645135 = x7
  have bx7 := pm_iand_in ((x3 + x5) + x6) 252645135 x7 hx7
  refine px_istore_n hG dJ6_bitCount_0f7a4_33 (Nat.le_of_ble_eq_true rfl) (L2 := [some (.inl x7)]) rfl ?_
  refine px_iload_n hG dJ6_bitCount_0f7a4_34 rfl ?_
  refine px_iload_n hG dJ6_bitCount_0f7a4_35 rfl ?_
  refine px_bipush hG dJ6_bitCount_0f7a4_36 (by decide) ?_
  refine px_iushr hG dJ6_bitCount_0f7a4_38 ?_
  generalize hx8 : pm_iushr x7 8 = x8
  have bx8 := pm_iushr_in x7 8 x8 hx8
  refine px_iadd hG dJ6_bitCount_0f7a4_39 ?_
  refine px_istore_n hG dJ6_bitCount_0f7a4_40 (Nat.le_of_ble_eq_true rfl) (L2 := [some (.inl (x7 + x8))]) rfl ?_
  refine px_iload_n hG dJ6_bitCount_0f7a4_41 rfl ?_
  refine px_iload_n hG dJ6_bitCount_0f7a4_42 rfl ?_
  refine px_bipush hG dJ6_bitCount_0f7a4_43 (by decide) ?_
  refine px_iushr hG dJ6_bitCount_0f7a4_45 ?_
  generalize hx9 : pm_iushr (x7 + x8) 16 = x9
  have bx9 := pm_iushr_in (x7 + x8) 16 x9 hx9
  refine px_iadd hG dJ6_bitCount_0f7a4_46 ?_
  refine px_istore_n hG dJ6_bitCount_0f7a4_47 (Nat.le_of_ble_eq_true rfl) (L2 := [some (.inl ((x7 + x8) + x9))]) rfl ?_
  refine px_iload_n hG dJ6_bitCount_0f7a4_48 rfl ?_
  refine px_bipush hG dJ6_bitCount_0f7a4_49 (by decide) ?_
  refine px_iand hG dJ6_bitCount_0f7a4_51 ?_
  generalize hx10 : pm_iand ((x7 + x8) + x9) 63 = x10
  have bx10 := pm_iand_in ((x7 + x8) + x9) 63 x10 hx10
  exact px_iret (st := []) hG dJ6_bitCount_0f7a4_52 rfl rfl (fun bb_1 ee => by cases ee; exact ⟨_, rfl, rfl, by omega⟩))
