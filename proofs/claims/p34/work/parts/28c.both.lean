/-! ===== pairs, filled once ===== -/
theorem pm_pwr {p b v : Int} (h : p = b ^ v.toNat) (hv : 0 ≤ v) : p * b = b ^ (v + 1).toNat := by
  rw [show (v + 1).toNat = v.toNat + 1 by omega, Int.pow_succ, h]
theorem pm_hm {n1 k1 z : Int} (h : z = (n1 + 1) ^ (k1 - 1).toNat) (hk : k1 = n1) (h1 : 1 ≤ n1) : (n1 + 1 - k1) * z = (((n1.toNat + 1) ^ (n1.toNat - 1) : Nat) : Int) := by
  subst hk
  obtain ⟨m, rfl⟩ : ∃ m : Nat, k1 = (m : Int) := ⟨k1.toNat, by omega⟩
  rw [h, show ((m : Int) + 1 - m) = 1 by omega, Int.one_mul, Int.toNat_natCast, show ((m : Int) - 1).toNat = m - 1 by omega]
  push_cast
  rfl
def pm_TP (s : pm_H) (m t : Nat) : Prop := ∀ a d : Int, 0 ≤ a → a ≤ 10 → 0 ≤ d → d ≤ 10 → s 29 m (a * 11 + d) = pm_cu (pm_Pd m a d) t
def pm_PF (s : pm_H) : Prop := ∀ m : Nat, 1 ≤ m → m ≤ 5 → (s 28 0 m = 1 → pm_TP s m (m ^ m)) ∧ (s 28 0 m ≠ 1 → ∀ i : Int, s 29 m i = 0)
def pm_KF (s0 s : pm_H) (n : Int) : Prop := ∀ i : Int, s 28 0 i = if i = n then 1 else s0 28 0 i
theorem pm_KF_0 {s0 s : pm_H} {n : Int} (e : s = pm_up s0 28 0 n 1) : pm_KF s0 s n := fun i => by
  by_cases z : i = n
  · rw [if_pos z, z]
    exact pm_at e
  · rw [if_neg z]
    exact pm_nei e z
theorem pm_KF_c {s0 s t : pm_H} {n : Int} (K : pm_KF s0 s n) (e : ∀ i : Int, t 28 0 i = s 28 0 i) : pm_KF s0 t n := fun i => (e i).trans (K i)
theorem pm_TP_c {s t : pm_H} {m u : Nat} (T : pm_TP s m u) (e : ∀ i : Int, t 29 m i = s 29 m i) : pm_TP t m u := fun a d h1 h2 h3 h4 => (e _).trans (T a d h1 h2 h3 h4)
theorem pm_PF_c {s t : pm_H} (P : pm_PF s) (e8 : ∀ i : Int, t 28 0 i = s 28 0 i) (e9 : ∀ r i : Int, t 29 r i = s 29 r i) : pm_PF t := fun m h1 h2 => by
  rw [e8]
  exact ⟨fun h => pm_TP_c ((P m h1 h2).1 h) (fun i => e9 _ i), fun h i => (e9 _ i).trans ((P m h1 h2).2 h i)⟩
def pm_FI (s : pm_H) (n : Nat) (left : Int) : Prop := (∃ u : Nat, u < n ^ n ∧ pm_fu n u (s 30 0) ∧ pm_gN n u = true ∧ left = pm_cu (pm_gN n) (n ^ n) - pm_cu (pm_gN n) u ∧ pm_TP s n u) ∨ (left = 0 ∧ pm_TP s n (n ^ n))
theorem pm_FI_0 {s : pm_H} {n : Nat} {left : Int} (h1 : 1 ≤ n) (h5 : n ≤ 5) (one : ∀ j : Int, 1 ≤ j → j ≤ n → s 30 0 j = 1) (zero : ∀ i : Int, s 29 n i = 0) (hl : left = (((n + 1) ^ (n - 1) : Nat) : Int)) : pm_FI s n left := by
  have f := pm_fu_1 one
  refine Or.inl ⟨0, pm_npos h1, f, (pm_gN_iff f).mpr (pm_gd_ones one), ?_, fun a d _ _ _ _ => zero _⟩
  rw [pm_cu_T h1 h5, hl]
  exact (Int.sub_zero _).symm
theorem pm_cu_1 {P : Nat → Bool} {u : Nat} (h : P u = true) : pm_cu P (u + 1) = pm_cu P u + 1 := by
  simp only [pm_cu]
  rw [if_pos h]
theorem pm_cu_n {P : Nat → Bool} {u : Nat} (h : P u ≠ true) : pm_cu P (u + 1) = pm_cu P u := by
  simp only [pm_cu]
  rw [if_neg h, Int.add_zero]
theorem pm_FI_le {s : pm_H} {n : Nat} {left : Int} (h : pm_FI s n left) (h5 : n ≤ 5) : 0 ≤ left ∧ left ≤ 3125 := by
  rcases h with ⟨u, u1, _, _, u4, _⟩ | ⟨h, _⟩
  · have a := pm_cu_mono (pm_gN n) (Nat.le_of_lt u1)
    have b := pm_cu_b (pm_gN n) u
    have c := pm_cu_b (pm_gN n) (n ^ n)
    have d := pm_pw5 h5
    omega
  · omega
theorem pm_FI_A {s : pm_H} {n : Nat} {left : Int} (h : pm_FI s n left) (hl : 0 < left) : ∃ u : Nat, u < n ^ n ∧ pm_fu n u (s 30 0) ∧ pm_gN n u = true ∧ left = pm_cu (pm_gN n) (n ^ n) - pm_cu (pm_gN n) u ∧ pm_TP s n u := by
  rcases h with h | ⟨h, _⟩
  · exact h
  · omega
theorem pm_FI_Z {s : pm_H} {n : Nat} {left : Int} (h : pm_FI s n left) (hl : left ≤ 0) : pm_TP s n (n ^ n) := by
  rcases h with ⟨u, u1, _, u3, u4, _⟩ | ⟨_, h⟩
  · have a := pm_cu_mono (pm_gN n) (show u + 1 ≤ n ^ n from u1)
    rw [pm_cu_1 u3] at a
    omega
  · exact h
theorem pm_TP_s {s s' : pm_H} {n u : Nat} {f : Int → Int} {ar di idx x r : Int} (T : pm_TP s n u) (h : pm_fu n u f) (hg : pm_gN n u = true) (e : s' = pm_up s 29 r idx (pm_wrap (x + 1))) (hr : (n : Int) = r) (hx : s 29 r idx = x) (hi : idx = ar * 11 + di) (ha : ar = pm_ar n f) (hd : di = pm_dw n f)
    (b1 : 0 ≤ ar ∧ ar ≤ 10) (b2 : 0 ≤ di ∧ di ≤ 10) (hu : u ≤ 3125) : pm_TP s' n (u + 1) := fun a d h1 h2 h3 h4 => by
  subst hr
  subst hi
  by_cases z : a = ar ∧ d = di
  · have q : pm_Pd n a d u = true := (pm_Pd_iff h a d).mpr ⟨hg, by omega, by omega⟩
    have t := T a d h1 h2 h3 h4
    have b := pm_cu_b (pm_Pd n a d) u
    rw [z.1, z.2] at t q b ⊢
    rw [pm_cu_1 q, pm_at e, pm_wrap_id ⟨by omega, by omega⟩]
    omega
  · have q : pm_Pd n a d u ≠ true := fun w => by
      have y := (pm_Pd_iff h a d).mp w
      exact z ⟨by omega, by omega⟩
    rw [pm_cu_n q, pm_nei e (by omega)]
    exact T a d h1 h2 h3 h4
theorem pm_FI_s {t : pm_H} {n u : Nat} {f : Int → Int} {left v : Int} (h1 : 1 ≤ n) (h5 : n ≤ 5) (h : pm_fu n u f) (hu : u < n ^ n) (hg : pm_gN n u = true) (hl : left = pm_cu (pm_gN n) (n ^ n) - pm_cu (pm_gN n) u) (T : pm_TP t n (u + 1))
    (hv : v = 0 ∨ v = 1) (S1 : v = 1 → pm_SN n f (t 30 0)) (S0 : v = 0 → ∀ x : Int, 1 ≤ x → x ≤ n → ¬ pm_CW f n x) (G : pm_gd (t 30 0) n) : pm_FI t n (left - 1) := by
  have a := pm_cu_1 hg
  rcases hv with hv | hv
  · have z := pm_SN_e h1 h5 h hu hg (S0 hv)
    have b := pm_cu_gap (P := pm_gN n) (show u + 1 ≤ n ^ n from hu) z
    refine Or.inr ⟨by omega, fun x y h1 h2 h3 h4 => ?_⟩
    rw [pm_cu_gap (P := pm_Pd n x y) (show u + 1 ≤ n ^ n from hu) (fun w p q => pm_Pd_n (z w p q))]
    exact T x y h1 h2 h3 h4
  · obtain ⟨u', q1, q2, q3, z⟩ := pm_SN_s h1 h5 h hu hg (S1 hv)
    have b := pm_cu_gap (P := pm_gN n) (show u + 1 ≤ u' from q1) z
    refine Or.inl ⟨u', q2, q3, (pm_gN_iff q3).mpr G, by omega, fun x y h1 h2 h3 h4 => ?_⟩
    rw [pm_cu_gap (P := pm_Pd n x y) (show u + 1 ≤ u' from q1) (fun w p q => pm_Pd_n (z w p q))]
    exact T x y h1 h2 h3 h4
theorem pm_PF_e {s0 s : pm_H} {m : Nat} {n1 : Int} (P : pm_PF s0) (K : pm_KF s0 s n1) (R : ∀ r i : Int, r ≠ n1 → s 29 r i = s0 29 r i) (T : pm_TP s m (m ^ m)) (hm : (m : Int) = n1) : pm_PF s ∧ s 28 0 n1 = 1 := by
  refine ⟨fun k h1 h2 => ?_, by rw [K, if_pos rfl]⟩
  by_cases z : k = m
  · subst z
    rw [K, if_pos hm]
    exact ⟨fun _ => T, fun h => absurd rfl h⟩
  · have y : (k : Int) ≠ n1 := by omega
    rw [K, if_neg y]
    exact ⟨fun h => pm_TP_c ((P k h1 h2).1 h) (fun i => R _ i y), fun h i => (R _ i y).trans ((P k h1 h2).2 h i)⟩
theorem pm_BO_c {s : pm_H} {n a d v : Int} (P : pm_PF s) (h1 : s 28 0 n = 1) (R : v = s 29 n (a * 11 + d)) (hn : 1 ≤ n ∧ n ≤ 5) (ha : 0 ≤ a ∧ a ≤ 10 ∧ 0 ≤ d ∧ d ≤ 10) : pm_BO n a d v := by
  obtain ⟨m, rfl⟩ : ∃ m : Nat, n = (m : Int) := ⟨n.toNat, by omega⟩
  refine Or.inr ⟨hn, Or.inr ⟨ha, ?_⟩⟩
  rw [Int.toNat_natCast, R]
  exact (P m (by omega) (by omega)).1 h1 a d ha.1 ha.2.1 ha.2.2.1 ha.2.2.2
theorem pm_di_b (cw hw : Int → Int) (j : Int) (k : Nat) : 0 ≤ pm_di cw hw j k ∧ pm_di cw hw j k ≤ k := by
  induction k with
  | zero => exact ⟨Int.le_refl _, Int.le_refl _⟩
  | succ k ih =>
    simp only [pm_di]
    unfold pm_tn
    split <;> omega
theorem pm_dj_b (cw hw : Int → Int) (k : Nat) : 0 ≤ pm_dj cw hw k ∧ pm_dj cw hw k ≤ pm_t1 k := by
  induction k with
  | zero => exact ⟨Int.le_refl _, Int.le_refl _⟩
  | succ k ih =>
    simp only [pm_dj, pm_t1]
    have := pm_di_b cw hw ((k : Int) + 1) k
    omega
theorem pm_nw_s {f : Int → Int} {n v : Int} (h : ∀ x : Int, v < x → x ≤ n → ¬ pm_CW f n x) (h2 : ¬ pm_CW f n v) : ∀ x : Int, v + -1 < x → x ≤ n → ¬ pm_CW f n x := fun x a b => by
  by_cases z : x = v
  · rw [z]
    exact h2
  · exact h x (by omega) b
theorem pm_wI_j {S : pm_WS} {cw hw : Int → Int} {j k : Int} (h : pm_wI S cw hw j) (e : k = j) : pm_wI S cw hw k := by
  rw [e]
  exact h

def pre_X10_powere (as : List pm_V) (n : Nat) (σ : pm_H) : Prop := ∃ bs ex : Int, as = [.inr (.inl bs), .inl ex] ∧ n = 122 ∧ pm_Rng σ ∧ (0 ≤ ex ∧ ex ≤ 10)
def po_X10_powere (as : List pm_V) (_ : Nat) (σ : pm_H) (r : Option pm_V) (τ : pm_H) : Prop := ∀ bs ex : Int, as = [.inr (.inl bs), .inl ex] → ∃ v : Int, r = some (.inr (.inl v)) ∧ σ = τ ∧ (v = bs ^ ex.toNat)
set_option maxRecDepth 20000 in
set_option maxHeartbeats 4000000 in
theorem ct_X10_powere : pm_Ct yX10_power cX10_power 6 (some .long) 0 0 pre_X10_powere po_X10_powere := pm_sound (ini := false) (by decide +kernel) pk_X10_power (fun h => absurd h (by decide)) (by
  rintro as n s0 ⟨bs, ex, rfl, rfl, R0, hpre⟩
  refine ⟨by decide, Nat.le_of_ble_eq_true rfl, fun G hG => ?_⟩
  have hG : pm_Rules (RX10, 0, 122, cX10_power, -1, (fun _ => 0), false, (some .long), po_X10_powere [.inr (.inl bs), .inl ex] 122 s0) G := hG
  show G 0 [some (.inr (.inl bs)), none, some (.inl ex), none, none, none] [] 122 s0
  refine px_lconst hG dX10_power_0 ?_
  show G 1 [some (.inr (.inl bs)), none, some (.inl ex), none, none, none] [.inr (.inl 1)] 122 s0
  refine px_lstore_n hG dX10_power_1 (Nat.le_of_ble_eq_true rfl) (L2 := [some (.inr (.inl bs)), none, some (.inl ex), some (.inr (.inl 1)), none, none]) rfl ?_
  refine px_iconst hG dX10_power_2 ?_
  refine px_istore hG dX10_power_3 (Nat.le_of_ble_eq_true rfl) (L2 := [some (.inr (.inl bs)), none, some (.inl ex), some (.inr (.inl 1)), none, some (.inl 0)]) rfl ?_
  have L5 : ∀ (N : Nat) (v3_1 : Int) (v5_2 : Int), ((0 ≤ v5_2 ∧ v5_2 ≤ 10000) ∧ (v3_1 = bs ^ v5_2.toNat ∧ v5_2 ≤ ex)) → (10001 - v5_2).toNat < N → G 5 [some (.inr (.inl bs)), none, some (.inl ex), some (.inr (.inl v3_1)), none, some (.inl v5_2)] [] 122 s0 := by
    intro N
    induction N with
    | zero => intro v3_1 v5_2 inv4 hm5; exact absurd hm5 (Nat.not_lt_zero _)
    | succ N ih3 =>
      intro v3_1 v5_2 inv4 hm5
      have U1 := (inv4.2).1
      have U2 := (inv4.2).2
      refine px_iload hG dX10_power_5 rfl ?_
      refine px_iload_n hG dX10_power_7 rfl ?_
      refine px_ic_ge hG dX10_power_8 (tgt := 21) (by decide) ⟨by omega, by omega⟩ ⟨by omega, by omega⟩ (fun c6 => ?_) (fun c6 => ?_)
      · have Q : v5_2 = ex := by omega
        rw [Q] at U1
        refine px_lload_n hG dX10_power_21 rfl ?_
        exact px_lret (st := []) hG dX10_power_22 rfl rfl (fun bs_1 ex_1 ee => by cases ee; exact ⟨_, rfl, rfl, U1⟩)
      · refine px_lload_n hG dX10_power_11 rfl ?_
        refine px_lload_n hG dX10_power_12 rfl ?_
        refine px_lmul hG dX10_power_13 ?_
        refine px_lstore_n hG dX10_power_14 (Nat.le_of_ble_eq_true rfl) (L2 := [some (.inr (.inl bs)), none, some (.inl ex), some (.inr (.inl (v3_1 * bs))), none, some (.inl v5_2)]) rfl ?_
        refine px_iinc hG dX10_power_15 (Nat.le_of_ble_eq_true rfl) rfl (L2 := [some (.inr (.inl bs)), none, some (.inl ex), some (.inr (.inl (v3_1 * bs))), none, some (.inl (v5_2 + 1))]) rfl ?_
        refine px_goto hG dX10_power_18 (tgt := 5) (by decide) ?_
        exact ih3 (v3_1 * bs) (v5_2 + 1) (⟨by omega, ⟨pm_pwr U1 (by omega), by omega⟩⟩) (by omega)
  exact L5 _ 1 0 (⟨by omega, ⟨(Int.pow_zero _).symm, by omega⟩⟩) (Nat.lt_succ_self _))
def pre_X0_howManye (as : List pm_V) (n : Nat) (σ : pm_H) : Prop := ∃ n1 k1 : Int, as = [.inr (.inr (11, 0)), .inl n1, .inl k1] ∧ n = 122 ∧ pm_Rng σ ∧ (1 ≤ n1 ∧ n1 ≤ 5 ∧ k1 = n1)
def po_X0_howManye (as : List pm_V) (_ : Nat) (σ : pm_H) (r : Option pm_V) (τ : pm_H) : Prop := ∀ n1 k1 : Int, as = [.inr (.inr (11, 0)), .inl n1, .inl k1] → ∃ v : Int, r = some (.inr (.inl v)) ∧ σ = τ ∧ (v = (((n1.toNat + 1) ^ (n1.toNat - 1) : Nat) : Int))
set_option maxRecDepth 20000 in
set_option maxHeartbeats 4000000 in
theorem ct_X0_howManye : pm_Ct yX0_howMany cX0_howMany 3 (some .long) 1 0 pre_X0_howManye po_X0_howManye := pm_sound (ini := false) (by decide +kernel) pk_X0_howMany (fun h => absurd h (by decide)) (by
  rintro as n s0 ⟨n1, k1, rfl, rfl, R0, hpre⟩
  refine ⟨by decide, Nat.le_of_ble_eq_true rfl, fun G hG => ?_⟩
  have hG : pm_Rules (RX0, 1, 122, cX0_howMany, -1, (fun _ => 0), false, (some .long), po_X0_howManye [.inr (.inr (11, 0)), .inl n1, .inl k1] 122 s0) G := hG
  show G 0 [some (.inr (.inr (11, 0))), some (.inl n1), some (.inl k1)] [] 122 s0
  refine px_iload_n hG dX0_howMany_0 rfl ?_
  refine px_if_ne hG dX0_howMany_1 (tgt := 8) (by decide) ⟨by omega, by omega⟩ (fun c1 => ?_) (fun c1 => ?_)
  · refine px_iload_n hG dX0_howMany_8 rfl ?_
    refine px_iconst hG dX0_howMany_9 ?_
    refine px_iadd hG dX0_howMany_10 ?_
    refine px_iload_n hG dX0_howMany_11 rfl ?_
    refine px_isub hG dX0_howMany_12 ?_
    refine px_i2l hG dX0_howMany_13 ⟨by omega, by omega⟩ ?_
    refine px_iload_n hG dX0_howMany_14 rfl ?_
    refine px_iconst hG dX0_howMany_15 ?_
    refine px_iadd hG dX0_howMany_16 ?_
    refine px_i2l hG dX0_howMany_17 ⟨by omega, by omega⟩ ?_
    refine px_iload_n hG dX0_howMany_18 rfl ?_
    refine px_iconst hG dX0_howMany_19 ?_
    refine px_isub hG dX0_howMany_20 ?_
    refine js2 hG dX0_howMany_21 ct_X10_powere lk_X0_23 ⟨Nat.le_of_ble_eq_true rfl, Nat.le_of_ble_eq_true rfl, Nat.le_of_ble_eq_true rfl⟩ (Nat.le_of_ble_eq_true rfl) ⟨(n1 + 1), (k1 - 1), rfl, rfl, R0, by omega⟩ (fun r2 t3 pr2 => ?_)
    obtain ⟨z4, rfl, rfl, br2⟩ := pr2 _ _ rfl
    show G 24 [some (.inr (.inr (11, 0))), some (.inl n1), some (.inl k1)] [.inr (.inl z4), .inr (.inl ((n1 + 1) - k1))] 122 s0
    have W := br2
    refine px_lmul hG dX0_howMany_24 ?_
    exact px_lret (st := []) hG dX0_howMany_25 rfl rfl (fun n1_1 k1_1 ee => by cases ee; exact ⟨_, rfl, rfl, by first | (exfalso; omega) | exact pm_hm W (by omega) (by omega)⟩)
  · refine px_lconst hG dX0_howMany_4 ?_
    show G 5 [some (.inr (.inr (11, 0))), some (.inl n1), some (.inl k1)] [.inr (.inl 1)] 122 s0
    refine px_goto hG dX0_howMany_5 (tgt := 25) (by decide) ?_
    exact px_lret (st := []) hG dX0_howMany_25 rfl rfl (fun n1_1 k1_1 ee => by cases ee; exact ⟨_, rfl, rfl, by first | (exfalso; omega) | exact pm_hm W (by omega) (by omega)⟩))
def pre_X0_canWishOneMorePe (as : List pm_V) (n : Nat) (σ : pm_H) : Prop := ∃ n1 car : Int, as = [.inr (.inr (11, 0)), .inr (.inr (30, 0)), .inl n1, .inl car] ∧ n = 122 ∧ pm_Rng σ ∧ (1 ≤ n1 ∧ n1 ≤ 10 ∧ 1 ≤ car ∧ car ≤ 5)
def po_X0_canWishOneMorePe (as : List pm_V) (_ : Nat) (σ : pm_H) (r : Option pm_V) (τ : pm_H) : Prop := ∀ n1 car : Int, as = [.inr (.inr (11, 0)), .inr (.inr (30, 0)), .inl n1, .inl car] → ∃ v : Int, r = some (.inl v) ∧ σ = τ ∧ ((v = 0 ∨ v = 1) ∧ (v = 1 → pm_CW (σ 30 0) n1 car) ∧ (v = 0 → ¬ pm_CW (σ 30 0) n1 car))
set_option maxRecDepth 20000 in
set_option maxHeartbeats 4000000 in
theorem ct_X0_canWishOneMorePe : pm_Ct yX0_canWishOneMore cX0_canWishOneMore 6 (some .boolean) 0 0 pre_X0_canWishOneMorePe po_X0_canWishOneMorePe := pm_sound (ini := false) (by decide +kernel) pk_X0_canWishOneMore (fun h => absurd h (by decide)) (by
  rintro as n s0 ⟨n1, car, rfl, rfl, R0, hpre⟩
  refine ⟨by decide, Nat.le_of_ble_eq_true rfl, fun G hG => ?_⟩
  have hG : pm_Rules (RX0, 0, 122, cX0_canWishOneMore, -1, (fun _ => 0), false, (some .boolean), po_X0_canWishOneMorePe [.inr (.inr (11, 0)), .inr (.inr (30, 0)), .inl n1, .inl car] 122 s0) G := hG
  show G 0 [some (.inr (.inr (11, 0))), some (.inr (.inr (30, 0))), some (.inl n1), some (.inl car), none, none] [] 122 s0
  refine px_iconst hG dX0_canWishOneMore_0 ?_
  refine px_istore hG dX0_canWishOneMore_1 (Nat.le_of_ble_eq_true rfl) (L2 := [some (.inr (.inr (11, 0))), some (.inr (.inr (30, 0))), some (.inl n1), some (.inl car), some (.inl 1), none]) rfl ?_
  refine px_iconst hG dX0_canWishOneMore_3 ?_
  refine px_istore hG dX0_canWishOneMore_4 (Nat.le_of_ble_eq_true rfl) (L2 := [some (.inr (.inr (11, 0))), some (.inr (.inr (30, 0))), some (.inl n1), some (.inl car), some (.inl 1), some (.inl 1)]) rfl ?_
  have L6 : ∀ (N : Nat) (v4_1 : Int) (v5_2 : Int), ((1 ≤ v5_2 ∧ v5_2 ≤ 10000) ∧ (v4_1 = 1 + pm_gt (s0 30 0) (s0 30 0 car) (v5_2 - 1).toNat ∧ 1 ≤ v4_1 ∧ v4_1 ≤ v5_2 ∧ v5_2 ≤ car)) → (10001 - v5_2).toNat < N → G 6 [none, some (.inr (.inr (30, 0))), some (.inl n1), some (.inl car), some (.inl v4_1), some (.inl v5_2)] [] 122 s0 := by
    intro N
    induction N with
    | zero => intro v4_1 v5_2 inv4 hm5; exact absurd hm5 (Nat.not_lt_zero _)
    | succ N ih3 =>
      intro v4_1 v5_2 inv4 hm5
      have U := (inv4.2).1
      refine px_iload hG dX0_canWishOneMore_6 rfl ?_
      refine px_iload_n hG dX0_canWishOneMore_8 rfl ?_
      refine px_ic_ge hG dX0_canWishOneMore_9 (tgt := 31) (by decide) ⟨by omega, by omega⟩ ⟨by omega, by omega⟩ (fun c6 => ?_) (fun c6 => ?_)
      · have Q : v5_2 = car := by omega
        rw [Q] at U
        refine px_iload hG dX0_canWishOneMore_31 rfl ?_
        refine px_iload_n hG dX0_canWishOneMore_33 rfl ?_
        refine px_aload_n hG dX0_canWishOneMore_34 rfl ?_
        refine px_iload_n hG dX0_canWishOneMore_35 rfl ?_
        refine al_30 hG dX0_canWishOneMore_36 R0 (by omega) (fun x7 ex7 lx7 ux7 => ?_)
        refine px_isub hG dX0_canWishOneMore_37 ?_
        refine px_ic_gt hG dX0_canWishOneMore_38 (tgt := 45) (by decide) ⟨by omega, by omega⟩ ⟨by omega, by omega⟩ (fun c8 => ?_) (fun c8 => ?_)
        · refine px_iconst hG dX0_canWishOneMore_45 ?_
          exact px_zret (st := []) hG dX0_canWishOneMore_46 rfl (by omega) rfl (fun n1_1 car_1 ee => by cases ee; exact ⟨_, rfl, rfl, ⟨by omega, fun h => by unfold pm_CW; omega, fun h => by unfold pm_CW; omega⟩⟩)
        · refine px_iconst hG dX0_canWishOneMore_41 ?_
          refine px_goto hG dX0_canWishOneMore_42 (tgt := 46) (by decide) ?_
          exact px_zret (st := []) hG dX0_canWishOneMore_46 rfl (by omega) rfl (fun n1_1 car_1 ee => by cases ee; exact ⟨_, rfl, rfl, ⟨by omega, fun h => by unfold pm_CW; omega, fun h => by unfold pm_CW; omega⟩⟩)
      · have V := pm_gt_s (s0 30 0) (s0 30 0 car) (a := v5_2) (by omega)
        refine px_aload_n hG dX0_canWishOneMore_12 rfl ?_
        refine px_iload hG dX0_canWishOneMore_13 rfl ?_
        refine al_30 hG dX0_canWishOneMore_15 R0 (by omega) (fun x9 ex9 lx9 ux9 => ?_)
        have X1 := ex9
        refine px_aload_n hG dX0_canWishOneMore_16 rfl ?_
        refine px_iload_n hG dX0_canWishOneMore_17 rfl ?_
        refine al_30 hG dX0_canWishOneMore_18 R0 (by omega) (fun x10 ex10 lx10 ux10 => ?_)
        have X2 := ex10
        refine px_ic_le hG dX0_canWishOneMore_19 (tgt := 25) (by decide) ⟨by omega, by omega⟩ ⟨by omega, by omega⟩ (fun c11 => ?_) (fun c11 => ?_)
        · refine px_iinc hG dX0_canWishOneMore_25 (Nat.le_of_ble_eq_true rfl) rfl (L2 := [none, some (.inr (.inr (30, 0))), some (.inl n1), some (.inl car), some (.inl v4_1), some (.inl (v5_2 + 1))]) rfl ?_
          refine px_goto hG dX0_canWishOneMore_28 (tgt := 6) (by decide) ?_
          exact ih3 v4_1 (v5_2 + 1) (⟨by omega, by first | exact ⟨by omega, by omega, by omega, by omega⟩ | (rw [if_neg (by omega)] at V; exact ⟨by omega, by omega, by omega, by omega⟩)⟩) (by omega)
        · rw [if_pos (by omega)] at V
          refine px_iinc hG dX0_canWishOneMore_22 (Nat.le_of_ble_eq_true rfl) rfl (L2 := [none, some (.inr (.inr (30, 0))), some (.inl n1), some (.inl car), some (.inl (v4_1 + 1)), some (.inl v5_2)]) rfl ?_
          refine px_iinc hG dX0_canWishOneMore_25 (Nat.le_of_ble_eq_true rfl) rfl (L2 := [none, some (.inr (.inr (30, 0))), some (.inl n1), some (.inl car), some (.inl (v4_1 + 1)), some (.inl (v5_2 + 1))]) rfl ?_
          refine px_goto hG dX0_canWishOneMore_28 (tgt := 6) (by decide) ?_
          exact ih3 (v4_1 + 1) (v5_2 + 1) (⟨by omega, by first | exact ⟨by omega, by omega, by omega, by omega⟩ | (rw [if_neg (by omega)] at V; exact ⟨by omega, by omega, by omega, by omega⟩)⟩) (by omega)
  refine px_weak hG (L2 := [none, some (.inr (.inr (30, 0))), some (.inl n1), some (.inl car), some (.inl 1), some (.inl 1)]) ⟨Or.inl rfl, Or.inr rfl, Or.inr rfl, Or.inr rfl, Or.inr rfl, Or.inr rfl, trivial⟩ ?_
  exact L6 _ 1 1 (⟨by omega, ⟨rfl, by omega, by omega, by omega⟩⟩) (Nat.lt_succ_self _))
def pre_X0_stepOnPe (as : List pm_V) (n : Nat) (σ : pm_H) : Prop := ∃ n1 k1 : Int, as = [.inr (.inr (11, 0)), .inr (.inr (30, 0)), .inl n1, .inl k1] ∧ n = 122 ∧ pm_Rng σ ∧ (1 ≤ n1 ∧ n1 ≤ 5 ∧ k1 = n1)
def po_X0_stepOnPe (as : List pm_V) (_ : Nat) (σ : pm_H) (r : Option pm_V) (τ : pm_H) : Prop := ∀ n1 k1 : Int, as = [.inr (.inr (11, 0)), .inr (.inr (30, 0)), .inl n1, .inl k1] → ∃ v : Int, r = some (.inl v) ∧ pm_Rng τ ∧ pm_Fr [(30, none)] σ τ ∧ ((v = 0 ∨ v = 1) ∧ (pm_gd (σ 30 0) n1.toNat → pm_gd (τ 30 0) n1.toNat) ∧ (v = 1 → pm_SN n1 (σ 30 0) (τ 30 0)) ∧ (v = 0 → ∀ x : Int, 1 ≤ x → x ≤ n1 → ¬ pm_CW (σ 30 0) n1 x))
set_option maxRecDepth 20000 in
set_option maxHeartbeats 4000000 in
theorem ct_X0_stepOnPe : pm_Ct yX0_stepOn cX0_stepOn 6 (some .boolean) 1 0 pre_X0_stepOnPe po_X0_stepOnPe := pm_sound (ini := false) (by decide +kernel) pk_X0_stepOn (fun h => absurd h (by decide)) (by
  rintro as n s0 ⟨n1, k1, rfl, rfl, R0, hpre⟩
  refine ⟨by decide, Nat.le_of_ble_eq_true rfl, fun G hG => ?_⟩
  have hG : pm_Rules (RX0, 1, 122, cX0_stepOn, -1, (fun _ => 0), false, (some .boolean), po_X0_stepOnPe [.inr (.inr (11, 0)), .inr (.inr (30, 0)), .inl n1, .inl k1] 122 s0) G := hG
  show G 0 [some (.inr (.inr (11, 0))), some (.inr (.inr (30, 0))), some (.inl n1), some (.inl k1), none, none] [] 122 s0
  refine px_iload_n hG dX0_stepOn_0 rfl ?_
  refine px_istore hG dX0_stepOn_1 (Nat.le_of_ble_eq_true rfl) (L2 := [some (.inr (.inr (11, 0))), some (.inr (.inr (30, 0))), some (.inl n1), some (.inl k1), some (.inl k1), none]) rfl ?_
  have L3 : ∀ (N : Nat) (v4_1 : Int) (s2 : pm_H), pm_Rng s2 → pm_Fr [(30, none)] s0 s2 → ((-10000 ≤ v4_1 ∧ v4_1 ≤ k1) ∧ ((∀ i : Int, s2 30 0 i = s0 30 0 i) ∧ ∀ x : Int, v4_1 < x → x ≤ n1 → ¬ pm_CW (s0 30 0) n1 x)) → (v4_1 + 10001).toNat < N → G 3 [some (.inr (.inr (11, 0))), some (.inr (.inr (30, 0))), some (.inl n1), some (.inl k1), some (.inl v4_1), none] [] 122 s2 := by
    intro N
    induction N with
    | zero => intro v4_1 s2 R3 F4 inv6 hm7; exact absurd hm7 (Nat.not_lt_zero _)
    | succ N ih5 =>
      intro v4_1 s2 R3 F4 inv6 hm7
      have W := (inv6.2).1
      have NW := (inv6.2).2
      refine px_iload hG dX0_stepOn_3 rfl ?_
      refine px_iconst hG dX0_stepOn_5 ?_
      refine px_ic_lt hG dX0_stepOn_6 (tgt := 59) (by decide) ⟨by omega, by omega⟩ ⟨by omega, by omega⟩ (fun c8 => ?_) (fun c8 => ?_)
      · refine px_iconst hG dX0_stepOn_59 ?_
        exact px_zret (st := []) hG dX0_stepOn_60 rfl (by omega) rfl (fun n1_1 k1_1 ee => by cases ee; exact ⟨_, rfl, R3, F4, ⟨by omega, fun hg => pm_gd_eq hg W, fun h => by omega, fun _ x a b => NW x (by omega) b⟩⟩)
      · refine px_aload_n hG dX0_stepOn_9 rfl ?_
        refine px_aload_n hG dX0_stepOn_10 rfl ?_
        refine px_iload_n hG dX0_stepOn_11 rfl ?_
        refine px_iload hG dX0_stepOn_12 rfl ?_
        refine jv3 hG dX0_stepOn_14 ct_X0_canWishOneMorePe lk_X0_34 ⟨rfl, rfl⟩ (by decide) ⟨Nat.le_of_ble_eq_true rfl, Nat.le_of_ble_eq_true rfl, Nat.le_of_ble_eq_true rfl⟩ (Nat.le_of_ble_eq_true rfl) ⟨n1, v4_1, rfl, rfl, R3, by omega⟩ (fun r9 t10 pr9 => ?_)
        obtain ⟨x11, rfl, rfl, br9⟩ := pr9 _ _ rfl
        show G 17 [some (.inr (.inr (11, 0))), some (.inr (.inr (30, 0))), some (.inl n1), some (.inl k1), some (.inl v4_1), none] [.inl x11] 122 s2
        have CW := br9
        refine px_if_eq hG dX0_stepOn_17 (tgt := 53) (by decide) ⟨by omega, by omega⟩ (fun c12 => ?_) (fun c12 => ?_)
        · refine px_iinc hG dX0_stepOn_53 (Nat.le_of_ble_eq_true rfl) rfl (L2 := [some (.inr (.inr (11, 0))), some (.inr (.inr (30, 0))), some (.inl n1), some (.inl k1), some (.inl (v4_1 + -1)), none]) rfl ?_
          refine px_goto hG dX0_stepOn_56 (tgt := 3) (by decide) ?_
          exact ih5 (v4_1 + -1) s2 R3 F4 (⟨by omega, ⟨W, pm_nw_s NW (fun q => CW.2.2 (by omega) (pm_CW_cg (fun i => (W i).symm) q))⟩⟩) (by omega)
        · have CW2 := pm_CW_cg W (CW.2.1 (by omega))
          have CW3 : pm_gt (s0 30 0) (s0 30 0 v4_1) (v4_1 - 1).toNat + 1 ≤ n1 - s0 30 0 v4_1 := CW2
          have CN := pm_gt_nn (s0 30 0) (s0 30 0 v4_1) (v4_1 - 1).toNat
          have CX := W v4_1
          have GS : ∀ (g : Int → Int), pm_gd (s0 30 0) n1.toNat → (∀ i : Int, 1 ≤ i → i ≤ n1.toNat → g i = if i < v4_1 then s0 30 0 i else if i = v4_1 then s0 30 0 v4_1 + 1 else 1) → pm_gd g n1.toNat := fun g hg h => pm_gd_step hg (by omega) (by omega) (by omega) h
          have GT : ∀ (g : Int → Int), (∀ i : Int, 1 ≤ i → i ≤ n1 → g i = if i < v4_1 then s0 30 0 i else if i = v4_1 then s0 30 0 v4_1 + 1 else 1) → pm_SN n1 (s0 30 0) g := fun g h => ⟨v4_1, by omega, by omega, CW2, NW, h⟩
          refine px_aload_n hG dX0_stepOn_20 rfl ?_
          refine px_iload hG dX0_stepOn_21 rfl ?_
          refine px_dup2 hG dX0_stepOn_23 ?_
          refine al_30 hG dX0_stepOn_24 R3 (by omega) (fun x13 ex13 lx13 ux13 => ?_)
          have X1 := ex13
          refine px_iconst hG dX0_stepOn_25 ?_
          refine px_iadd hG dX0_stepOn_26 ?_
          refine as_30 hG dX0_stepOn_27 R3 (by omega) (by omega) (fun s14 qs14 Rs14 => ?_)
          have Fs14 := pm_Fr_up (F4) qs14 (M := [(30, none)]) rfl
          have E1 := qs14
          refine px_iload hG dX0_stepOn_28 rfl ?_
          refine px_iconst hG dX0_stepOn_30 ?_
          refine px_iadd hG dX0_stepOn_31 ?_
          refine px_istore hG dX0_stepOn_32 (Nat.le_of_ble_eq_true rfl) (L2 := [some (.inr (.inr (11, 0))), some (.inr (.inr (30, 0))), some (.inl n1), some (.inl k1), some (.inl v4_1), some (.inl (v4_1 + 1))]) rfl ?_
          have L34 : ∀ (N : Nat) (v5_15 : Int) (s16 : pm_H), pm_Rng s16 → pm_Fr [(30, none)] s0 s16 → ((v4_1 + 1 ≤ v5_15 ∧ v5_15 ≤ 10000) ∧ (∀ i : Int, i < v5_15 → s16 30 0 i = if i < v4_1 then s0 30 0 i else if i = v4_1 then s0 30 0 v4_1 + 1 else 1)) → (10001 - v5_15).toNat < N → G 34 [none, some (.inr (.inr (30, 0))), none, some (.inl k1), none, some (.inl v5_15)] [] 122 s16 := by
            intro N
            induction N with
            | zero => intro v5_15 s16 R17 F18 inv20 hm21; exact absurd hm21 (Nat.not_lt_zero _)
            | succ N ih19 =>
              intro v5_15 s16 R17 F18 inv20 hm21
              have U := inv20.2
              refine px_iload hG dX0_stepOn_34 rfl ?_
              refine px_iload_n hG dX0_stepOn_36 rfl ?_
              refine px_ic_gt hG dX0_stepOn_37 (tgt := 51) (by decide) ⟨by omega, by omega⟩ ⟨by omega, by omega⟩ (fun c22 => ?_) (fun c22 => ?_)
              · refine px_iconst hG dX0_stepOn_51 ?_
                exact px_zret (st := []) hG dX0_stepOn_52 rfl (by omega) rfl (fun n1_1 k1_1 ee => by cases ee; exact ⟨_, rfl, R17, F18, ⟨by omega, fun hg => GS _ hg (fun i h0 h1 => U i (by omega)), fun _ => GT _ (fun i h0 h1 => U i (by omega)), fun h => by omega⟩⟩)
              · refine px_aload_n hG dX0_stepOn_40 rfl ?_
                refine px_iload hG dX0_stepOn_41 rfl ?_
                refine px_iconst hG dX0_stepOn_43 ?_
                refine as_30 hG dX0_stepOn_44 R17 (by omega) (by omega) (fun s23 qs23 Rs23 => ?_)
                have Fs23 := pm_Fr_up (F18) qs23 (M := [(30, none)]) rfl
                have E2 := qs23
                refine px_iinc hG dX0_stepOn_45 (Nat.le_of_ble_eq_true rfl) rfl (L2 := [none, some (.inr (.inr (30, 0))), none, some (.inl k1), none, some (.inl (v5_15 + 1))]) rfl ?_
                refine px_goto hG dX0_stepOn_48 (tgt := 34) (by decide) ?_
                exact ih19 (v5_15 + 1) s23 Rs23 Fs23 (⟨by omega, fun i h => pm_stp U E2 (by omega) i h⟩) (by omega)
          refine px_weak hG (L2 := [none, some (.inr (.inr (30, 0))), none, some (.inl k1), none, some (.inl (v4_1 + 1))]) ⟨Or.inl rfl, Or.inr rfl, Or.inl rfl, Or.inr rfl, Or.inl rfl, Or.inr rfl, trivial⟩ ?_
          exact L34 _ (v4_1 + 1) s14 Rs14 Fs14 (⟨by omega, fun i h => pm_stp0 W E1 X1 i h⟩) (Nat.lt_succ_self _)
  exact L3 _ k1 s0 R0 pm_Fr_rf (⟨by omega, ⟨fun _ => rfl, fun x a b => by omega⟩⟩) (Nat.lt_succ_self _))
def pre_X9_buildPe (as : List pm_V) (n : Nat) (σ : pm_H) : Prop := ∃ n1 : Int, as = [.inr (.inr (24, 0)), .inr (.inr (30, 0)), .inl n1] ∧ n = 122 ∧ pm_Rng σ ∧ (1 ≤ n1 ∧ n1 ≤ 5)
def po_X9_buildPe (as : List pm_V) (_ : Nat) (σ : pm_H) (r : Option pm_V) (τ : pm_H) : Prop := ∀ n1 : Int, as = [.inr (.inr (24, 0)), .inr (.inr (30, 0)), .inl n1] → r = none ∧ pm_Rng τ ∧ pm_Fr [(24, some 0), (25, none), (26, none)] σ τ ∧ (τ 24 0 0 = n1 ∧ (pm_gd (σ 30 0) n1.toNat → ∀ q : Int, 1 ≤ q → q ≤ n1 → 0 ≤ τ 26 0 q ∧ τ 26 0 q ≤ q - 1) ∧ (pm_gd (σ 30 0) n1.toNat → pm_wI (pm_wv (σ 30 0) n1.toNat n1.toNat) (τ 25 0) (τ 26 0) n1))
set_option maxRecDepth 20000 in
set_option maxHeartbeats 4000000 in
theorem ct_X9_buildPe : pm_Ct yX9_build cX9_build 6 none 0 0 pre_X9_buildPe po_X9_buildPe := pm_sound (ini := false) (by decide +kernel) pk_X9_build (fun h => absurd h (by decide)) (by
  rintro as n s0 ⟨n1, rfl, rfl, R0, hpre⟩
  refine ⟨by decide, Nat.le_of_ble_eq_true rfl, fun G hG => ?_⟩
  have hG : pm_Rules (RX9, 0, 122, cX9_build, -1, (fun _ => 0), false, none, po_X9_buildPe [.inr (.inr (24, 0)), .inr (.inr (30, 0)), .inl n1] 122 s0) G := hG
  show G 0 [some (.inr (.inr (24, 0))), some (.inr (.inr (30, 0))), some (.inl n1), none, none, none] [] 122 s0
  refine px_aload_n hG dX9_build_0 rfl ?_
  refine px_iload_n hG dX9_build_1 rfl ?_
  refine pi_24_0 hG dX9_build_2 fl_X9_9 R0 (by omega) (fun s1 qs1 Rs1 => ?_)
  have Fs1 := pm_Fr_up ((pm_Fr_rf : pm_Fr [(24, some 0), (25, none), (26, none)] s0 s0)) qs1 (M := [(24, some 0), (25, none), (26, none)]) rfl
  have k2 : s1 24 0 0 = n1 := pm_at qs1
  refine px_iconst hG dX9_build_5 ?_
  refine px_istore_n hG dX9_build_6 (Nat.le_of_ble_eq_true rfl) (L2 := [some (.inr (.inr (24, 0))), some (.inr (.inr (30, 0))), some (.inl n1), some (.inl 0), none, none]) rfl ?_
  refine px_iconst hG dX9_build_7 ?_
  refine px_istore hG dX9_build_8 (Nat.le_of_ble_eq_true rfl) (L2 := [some (.inr (.inr (24, 0))), some (.inr (.inr (30, 0))), some (.inl n1), some (.inl 0), some (.inl 1), none]) rfl ?_
  have L10 : ∀ (N : Nat) (v3_3 : Int) (v4_4 : Int) (s5 : pm_H), pm_Rng s5 → pm_Fr [(24, some 0), (25, none), (26, none)] s0 s5 → s5 24 0 0 = n1 → ((0 ≤ v3_3 ∧ v3_3 ≤ 10000) ∧ (1 ≤ v4_4 ∧ v4_4 ≤ 10000) ∧ (v3_3 = pm_sc (s0 30 0) v4_4 1 n1.toNat ∧ 1 ≤ v4_4 ∧ v4_4 ≤ n1 + 1 ∧ (pm_gd (s0 30 0) n1.toNat → ∀ q : Int, 1 ≤ q → q ≤ v3_3 → 0 ≤ s5 26 0 q ∧ s5 26 0 q ≤ q - 1) ∧ pm_wI (pm_wS (s0 30 0) n1.toNat v4_4 1) (s5 25 0) (s5 26 0) v3_3)) → (10001 - v4_4).toNat < N → G 10 [some (.inr (.inr (24, 0))), some (.inr (.inr (30, 0))), none, some (.inl v3_3), some (.inl v4_4), none] [] 122 s5 := by
    intro N
    induction N with
    | zero => intro v3_3 v4_4 s5 R6 F7 k9 inv10 hm11; exact absurd hm11 (Nat.not_lt_zero _)
    | succ N ih8 =>
      intro v3_3 v4_4 s5 R6 F7 k9 inv10 hm11
      have W := inv10.2.2
      refine px_iload hG dX9_build_10 rfl ?_
      refine px_aload_n hG dX9_build_12 rfl ?_
      refine gi_24_0 hG dX9_build_13 fl_X9_9 R6 (fun x12 ex12 lx12 ux12 => ?_)
      refine px_ic_gt hG dX9_build_16 (tgt := 73) (by decide) ⟨by omega, by omega⟩ ⟨by omega, by omega⟩ (fun c13 => ?_) (fun c13 => ?_)
      · have A := fun hg => pm_sc_gdall (f := s0 30 0) (v := v4_4) (k := n1.toNat) hg (by omega)
        have B := pm_wI_e W.2.2.2.2 (by omega)
        have C : pm_gd (s0 30 0) n1.toNat → pm_wI (pm_wv (s0 30 0) n1.toNat n1.toNat) (s5 25 0) (s5 26 0) n1 := fun hg => pm_wI_j B (by have q := A hg; omega)
        exact px_vret (st := []) hG dX9_build_73 rfl rfl (fun n1_1 ee => by cases ee; exact ⟨rfl, R6, F7, ⟨by omega, fun hg q h0 h1 => W.2.2.2.1 hg q h0 (by have := A hg; omega), C⟩⟩)
      · refine px_iconst hG dX9_build_19 ?_
        refine px_istore hG dX9_build_20 (Nat.le_of_ble_eq_true rfl) (L2 := [some (.inr (.inr (24, 0))), some (.inr (.inr (30, 0))), none, some (.inl v3_3), some (.inl v4_4), some (.inl 1)]) rfl ?_
        have L22 : ∀ (N : Nat) (v3_14 : Int) (v5_15 : Int) (s16 : pm_H), pm_Rng s16 → pm_Fr [(24, some 0), (25, none), (26, none)] s0 s16 → s16 24 0 0 = n1 → ((v3_3 ≤ v3_14 ∧ v3_14 ≤ 10000) ∧ (1 ≤ v5_15 ∧ v5_15 ≤ 10000) ∧ (v3_14 = pm_sc (s0 30 0) v4_4 v5_15 n1.toNat ∧ v5_15 ≤ n1 + 1 ∧ (pm_gd (s0 30 0) n1.toNat → ∀ q : Int, 1 ≤ q → q ≤ v3_14 → 0 ≤ s16 26 0 q ∧ s16 26 0 q ≤ q - 1) ∧ pm_wI (pm_wS (s0 30 0) n1.toNat v4_4 v5_15) (s16 25 0) (s16 26 0) v3_14)) → (10001 - v5_15).toNat < N → G 22 [some (.inr (.inr (24, 0))), some (.inr (.inr (30, 0))), none, some (.inl v3_14), some (.inl v4_4), some (.inl v5_15)] [] 122 s16 := by
          intro N
          induction N with
          | zero => intro v3_14 v5_15 s16 R17 F18 k20 inv21 hm22; exact absurd hm22 (Nat.not_lt_zero _)
          | succ N ih19 =>
            intro v3_14 v5_15 s16 R17 F18 k20 inv21 hm22
            have U := inv21.2.2
            have U1 := U.1
            have UB := pm_sc_le (s0 30 0) v4_4 v5_15 n1.toNat
            have UN := pm_sc_nn (s0 30 0) v4_4 v5_15 n1.toNat
            refine px_iload hG dX9_build_22 rfl ?_
            refine px_aload_n hG dX9_build_24 rfl ?_
            refine gi_24_0 hG dX9_build_25 fl_X9_9 R17 (fun x23 ex23 lx23 ux23 => ?_)
            refine px_ic_gt hG dX9_build_28 (tgt := 67) (by decide) ⟨by omega, by omega⟩ ⟨by omega, by omega⟩ (fun c24 => ?_) (fun c24 => ?_)
            · have NX := pm_sc_nx (f := s0 30 0) (v := v4_4) (c := v5_15) (k := n1.toNat) (by omega)
              have NV := pm_wI_x U.2.2.2 (by omega) (by omega)
              refine px_iinc hG dX9_build_67 (Nat.le_of_ble_eq_true rfl) rfl (L2 := [some (.inr (.inr (24, 0))), some (.inr (.inr (30, 0))), none, some (.inl v3_14), some (.inl (v4_4 + 1)), some (.inl v5_15)]) rfl ?_
              refine px_goto hG dX9_build_70 (tgt := 10) (by decide) ?_
              refine px_weak hG (L2 := [some (.inr (.inr (24, 0))), some (.inr (.inr (30, 0))), none, some (.inl v3_14), some (.inl (v4_4 + 1)), none]) ⟨Or.inr rfl, Or.inr rfl, Or.inr rfl, Or.inr rfl, Or.inr rfl, Or.inl rfl, trivial⟩ ?_
              exact ih8 v3_14 (v4_4 + 1) s16 R17 F18 k20 (⟨by omega, by omega, ⟨by omega, by omega, by omega, U.2.2.1, NV⟩⟩) (by omega)
            · refine px_aload_n hG dX9_build_31 rfl ?_
              refine px_iload hG dX9_build_32 rfl ?_
              refine al_30 hG dX9_build_34 R17 (by omega) (fun x25 ex25 lx25 ux25 => ?_)
              have X1 := (F18 30 0 v5_15 rfl).symm.trans ex25
              refine px_iload hG dX9_build_35 rfl ?_
              refine px_ic_ne hG dX9_build_37 (tgt := 61) (by decide) ⟨by omega, by omega⟩ ⟨by omega, by omega⟩ (fun c26 => ?_) (fun c26 => ?_)
              · refine px_iinc hG dX9_build_61 (Nat.le_of_ble_eq_true rfl) rfl (L2 := [some (.inr (.inr (24, 0))), some (.inr (.inr (30, 0))), none, some (.inl v3_14), some (.inl v4_4), some (.inl (v5_15 + 1))]) rfl ?_
                refine px_goto hG dX9_build_64 (tgt := 22) (by decide) ?_
                exact ih19 v3_14 (v5_15 + 1) s16 R17 F18 k20 (⟨by omega, by omega, by first | exact ⟨by omega, by omega, fun hg => pm_hst E1 E2 (U.2.2.1 hg) (by have := VG hg; omega) (by omega), pm_wI_s U.2.2.2 (by omega) (by omega) E1 E2 (by decide)⟩ | exact ⟨by rw [pm_sc_st (by omega)]; omega, by omega, U.2.2.1, pm_wI_n U.2.2.2 (by omega) (by omega)⟩⟩) (by omega)
              · have V := pm_sc_up (f := s0 30 0) (v := v4_4) (c := v5_15) (k := n1.toNat) (by omega) (by omega) (by omega) (by omega)
                have VB := pm_sc_le (s0 30 0) v4_4 (v5_15 + 1) n1.toNat
                have VG := fun hg => pm_sc_gd (f := s0 30 0) (v := v4_4) (c := v5_15) (k := n1.toNat) hg (by omega) (by omega) (by omega)
                refine px_iinc hG dX9_build_40 (Nat.le_of_ble_eq_true rfl) rfl (L2 := [some (.inr (.inr (24, 0))), some (.inr (.inr (30, 0))), none, some (.inl (v3_14 + 1)), some (.inl v4_4), some (.inl v5_15)]) rfl ?_
                refine px_aload_n hG dX9_build_43 rfl ?_
                refine gr_24_1 hG dX9_build_44 fl_X9_15 R17 ?_
                refine px_iload_n hG dX9_build_47 rfl ?_
                refine px_iload hG dX9_build_48 rfl ?_
                refine as_25 hG dX9_build_50 R17 (by omega) (by omega) (fun s27 qs27 Rs27 => ?_)
                have Fs27 := pm_Fr_up (F18) qs27 (M := [(24, some 0), (25, none), (26, none)]) rfl
                have k28 : s27 24 0 0 = n1 := (pm_nec qs27 (by decide)).trans k20
                have E1 := qs27
                refine px_aload_n hG dX9_build_51 rfl ?_
                refine gr_24_2 hG dX9_build_52 fl_X9_19 Rs27 ?_
                refine px_iload_n hG dX9_build_55 rfl ?_
                refine px_iload_n hG dX9_build_56 rfl ?_
                refine px_iload hG dX9_build_57 rfl ?_
                refine px_isub hG dX9_build_59 ?_
                refine as_26 hG dX9_build_60 Rs27 (by omega) (by omega) (fun s29 qs29 Rs29 => ?_)
                have Fs29 := pm_Fr_up (Fs27) qs29 (M := [(24, some 0), (25, none), (26, none)]) rfl
                have k30 : s29 24 0 0 = n1 := (pm_nec qs29 (by decide)).trans k28
                have E2 := qs29
                refine px_iinc hG dX9_build_61 (Nat.le_of_ble_eq_true rfl) rfl (L2 := [some (.inr (.inr (24, 0))), some (.inr (.inr (30, 0))), none, some (.inl (v3_14 + 1)), some (.inl v4_4), some (.inl (v5_15 + 1))]) rfl ?_
                refine px_goto hG dX9_build_64 (tgt := 22) (by decide) ?_
                exact ih19 (v3_14 + 1) (v5_15 + 1) s29 Rs29 Fs29 k30 (⟨by omega, by omega, by first | exact ⟨by omega, by omega, fun hg => pm_hst E1 E2 (U.2.2.1 hg) (by have := VG hg; omega) (by omega), pm_wI_s U.2.2.2 (by omega) (by omega) E1 E2 (by decide)⟩ | exact ⟨by rw [pm_sc_st (by omega)]; omega, by omega, U.2.2.1, pm_wI_n U.2.2.2 (by omega) (by omega)⟩⟩) (by omega)
        exact L22 _ v3_3 1 s5 R6 F7 k9 (⟨by omega, by omega, ⟨W.1, by omega, W.2.2.2.1, W.2.2.2.2⟩⟩) (Nat.lt_succ_self _)
  refine px_weak hG (L2 := [some (.inr (.inr (24, 0))), some (.inr (.inr (30, 0))), none, some (.inl 0), some (.inl 1), none]) ⟨Or.inr rfl, Or.inr rfl, Or.inl rfl, Or.inr rfl, Or.inr rfl, Or.inr rfl, trivial⟩ ?_
  exact L10 _ 0 1 s1 Rs1 Fs1 k2 (⟨by omega, by omega, ⟨(pm_sc_0 _ _).symm, by omega, by omega, fun _ q h0 h1 => by omega, pm_wI_0⟩⟩) (Nat.lt_succ_self _))
def pre_X9_areae (as : List pm_V) (n : Nat) (σ : pm_H) : Prop := as = [.inr (.inr (24, 0))] ∧ n = 122 ∧ pm_Rng σ
def po_X9_areae (as : List pm_V) (_ : Nat) (σ : pm_H) (r : Option pm_V) (τ : pm_H) : Prop := as = [.inr (.inr (24, 0))] → ∃ v : Int, r = some (.inl v) ∧ σ = τ ∧ (v = pm_sm (σ 26 0) (σ 24 0 0).toNat ∧ ((∀ j : Int, 1 ≤ j → j ≤ σ 24 0 0 → 0 ≤ σ 26 0 j ∧ σ 26 0 j ≤ j - 1) → 0 ≤ v ∧ v ≤ pm_t1 (σ 24 0 0).toNat))
set_option maxRecDepth 20000 in
set_option maxHeartbeats 4000000 in
theorem ct_X9_areae : pm_Ct yX9_area cX9_area 3 (some .int) 0 0 pre_X9_areae po_X9_areae := pm_sound (ini := false) (by decide +kernel) pk_X9_area (fun h => absurd h (by decide)) (by
  rintro as n s0 ⟨rfl, rfl, R0⟩
  refine ⟨by decide, Nat.le_of_ble_eq_true rfl, fun G hG => ?_⟩
  have hG : pm_Rules (RX9, 0, 122, cX9_area, -1, (fun _ => 0), false, (some .int), po_X9_areae [.inr (.inr (24, 0))] 122 s0) G := hG
  show G 0 [some (.inr (.inr (24, 0))), none, none] [] 122 s0
  have B := pb_24_0 R0
  refine px_iconst hG dX9_area_0 ?_
  refine px_istore_n hG dX9_area_1 (Nat.le_of_ble_eq_true rfl) (L2 := [some (.inr (.inr (24, 0))), some (.inl 0), none]) rfl ?_
  refine px_iconst hG dX9_area_2 ?_
  refine px_istore_n hG dX9_area_3 (Nat.le_of_ble_eq_true rfl) (L2 := [some (.inr (.inr (24, 0))), some (.inl 0), some (.inl 1)]) rfl ?_
  have L4 : ∀ (N : Nat) (v1_1 : Int) (v2_2 : Int), ((1 ≤ v2_2 ∧ v2_2 ≤ 10000) ∧ (v2_2 ≤ s0 24 0 0 + 1 ∧ v1_1 = pm_sm (s0 26 0) (v2_2 - 1).toNat ∧ ((∀ j : Int, 1 ≤ j → j ≤ s0 24 0 0 → 0 ≤ s0 26 0 j ∧ s0 26 0 j ≤ j - 1) → 0 ≤ v1_1 ∧ v1_1 ≤ pm_t1 (v2_2 - 1).toNat))) → (10001 - v2_2).toNat < N → G 4 [some (.inr (.inr (24, 0))), some (.inl v1_1), some (.inl v2_2)] [] 122 s0 := by
    intro N
    induction N with
    | zero => intro v1_1 v2_2 inv4 hm5; exact absurd hm5 (Nat.not_lt_zero _)
    | succ N ih3 =>
      intro v1_1 v2_2 inv4 hm5
      have W := (inv4.2).2.2
      have WS := (inv4.2).2.1
      have W0 := (inv4.2).1
      refine px_iload_n hG dX9_area_4 rfl ?_
      refine px_aload_n hG dX9_area_5 rfl ?_
      refine gi_24_0 hG dX9_area_6 fl_X9_9 R0 (fun x6 ex6 lx6 ux6 => ?_)
      refine px_ic_gt hG dX9_area_9 (tgt := 27) (by decide) ⟨by omega, by omega⟩ ⟨by omega, by omega⟩ (fun c7 => ?_) (fun c7 => ?_)
      · have T : v2_2 - 1 = s0 24 0 0 := by omega
        rw [T] at WS W
        refine px_iload_n hG dX9_area_27 rfl ?_
        exact px_iret (st := []) hG dX9_area_28 rfl rfl (fun _ => by exact ⟨_, rfl, rfl, ⟨WS, W⟩⟩)
      · refine px_iload_n hG dX9_area_12 rfl ?_
        refine px_aload_n hG dX9_area_13 rfl ?_
        refine gr_24_2 hG dX9_area_14 fl_X9_19 R0 ?_
        refine px_iload_n hG dX9_area_17 rfl ?_
        refine al_26 hG dX9_area_18 R0 (by omega) (fun x8 ex8 lx8 ux8 => ?_)
        have X1 := ex8
        refine px_iadd hG dX9_area_19 ?_
        refine px_istore_n hG dX9_area_20 (Nat.le_of_ble_eq_true rfl) (L2 := [some (.inr (.inr (24, 0))), some (.inl (v1_1 + x8)), some (.inl v2_2)]) rfl ?_
        have T := pm_t1_s (a := v2_2) (by omega)
        have H1 := fun (h : (∀ j : Int, 1 ≤ j → j ≤ s0 24 0 0 → 0 ≤ s0 26 0 j ∧ s0 26 0 j ≤ j - 1)) => h v2_2 (by omega) (by omega)
        refine px_iinc hG dX9_area_21 (Nat.le_of_ble_eq_true rfl) rfl (L2 := [some (.inr (.inr (24, 0))), some (.inl (v1_1 + x8)), some (.inl (v2_2 + 1))]) rfl ?_
        refine px_goto hG dX9_area_24 (tgt := 4) (by decide) ?_
        exact ih3 (v1_1 + x8) (v2_2 + 1) (⟨by omega, ⟨by omega, by rw [pm_sm_s (by omega) X1, ← WS], fun h => by have h1 := H1 h; have h2 := W h; rw [X1] at h1; omega⟩⟩) (by omega)
  exact L4 _ 0 1 (⟨by omega, ⟨by omega, rfl, fun _ => ⟨by decide, by decide⟩⟩⟩) (Nat.lt_succ_self _))
def pre_X9_countsFore (as : List pm_V) (n : Nat) (σ : pm_H) : Prop := ∃ i1 j1 : Int, as = [.inr (.inr (24, 0)), .inl i1, .inl j1] ∧ n = 122 ∧ pm_Rng σ ∧ (1 ≤ i1 ∧ i1 ≤ 10 ∧ 1 ≤ j1 ∧ j1 ≤ 10)
def po_X9_countsFore (as : List pm_V) (_ : Nat) (σ : pm_H) (r : Option pm_V) (τ : pm_H) : Prop := ∀ i1 j1 : Int, as = [.inr (.inr (24, 0)), .inl i1, .inl j1] → ∃ v : Int, r = some (.inl v) ∧ σ = τ ∧ ((v = 0 ∨ v = 1) ∧ v = pm_tn (σ 25 0) (σ 26 0) i1 j1)
set_option maxRecDepth 20000 in
set_option maxHeartbeats 4000000 in
theorem ct_X9_countsFore : pm_Ct yX9_countsFor cX9_countsFor 3 (some .boolean) 0 0 pre_X9_countsFore po_X9_countsFore := pm_sound (ini := false) (by decide +kernel) pk_X9_countsFor (fun h => absurd h (by decide)) (by
  rintro as n s0 ⟨i1, j1, rfl, rfl, R0, hpre⟩
  refine ⟨by decide, Nat.le_of_ble_eq_true rfl, fun G hG => ?_⟩
  have hG : pm_Rules (RX9, 0, 122, cX9_countsFor, -1, (fun _ => 0), false, (some .boolean), po_X9_countsFore [.inr (.inr (24, 0)), .inl i1, .inl j1] 122 s0) G := hG
  show G 0 [some (.inr (.inr (24, 0))), some (.inl i1), some (.inl j1)] [] 122 s0
  refine px_aload_n hG dX9_countsFor_0 rfl ?_
  refine gr_24_2 hG dX9_countsFor_1 fl_X9_19 R0 ?_
  refine px_iload_n hG dX9_countsFor_4 rfl ?_
  refine al_26 hG dX9_countsFor_5 R0 (by omega) (fun x1 ex1 lx1 ux1 => ?_)
  refine px_aload_n hG dX9_countsFor_6 rfl ?_
  refine gr_24_2 hG dX9_countsFor_7 fl_X9_19 R0 ?_
  refine px_iload_n hG dX9_countsFor_10 rfl ?_
  refine al_26 hG dX9_countsFor_11 R0 (by omega) (fun x2 ex2 lx2 ux2 => ?_)
  refine px_ic_ne hG dX9_countsFor_12 (tgt := 36) (by decide) ⟨by omega, by omega⟩ ⟨by omega, by omega⟩ (fun c3 => ?_) (fun c3 => ?_)
  · refine px_aload_n hG dX9_countsFor_36 rfl ?_
    refine gr_24_2 hG dX9_countsFor_37 fl_X9_19 R0 ?_
    refine px_iload_n hG dX9_countsFor_40 rfl ?_
    refine al_26 hG dX9_countsFor_41 R0 (by omega) (fun x4 ex4 lx4 ux4 => ?_)
    refine px_aload_n hG dX9_countsFor_42 rfl ?_
    refine gr_24_2 hG dX9_countsFor_43 fl_X9_19 R0 ?_
    refine px_iload_n hG dX9_countsFor_46 rfl ?_
    refine al_26 hG dX9_countsFor_47 R0 (by omega) (fun x5 ex5 lx5 ux5 => ?_)
    refine px_iconst hG dX9_countsFor_48 ?_
    refine px_iadd hG dX9_countsFor_49 ?_
    refine px_ic_ne hG dX9_countsFor_50 (tgt := 72) (by decide) ⟨by omega, by omega⟩ ⟨by omega, by omega⟩ (fun c6 => ?_) (fun c6 => ?_)
    · refine px_iconst hG dX9_countsFor_72 ?_
      exact px_zret (st := []) hG dX9_countsFor_73 rfl (by omega) rfl (fun i1_1 j1_1 ee => by cases ee; exact ⟨_, rfl, rfl, ⟨by omega, by unfold pm_tn; first | rw [if_pos (by omega)] | rw [if_neg (by omega)]⟩⟩)
    · refine px_aload_n hG dX9_countsFor_53 rfl ?_
      refine gr_24_1 hG dX9_countsFor_54 fl_X9_15 R0 ?_
      refine px_iload_n hG dX9_countsFor_57 rfl ?_
      refine al_25 hG dX9_countsFor_58 R0 (by omega) (fun x7 ex7 lx7 ux7 => ?_)
      refine px_aload_n hG dX9_countsFor_59 rfl ?_
      refine gr_24_1 hG dX9_countsFor_60 fl_X9_15 R0 ?_
      refine px_iload_n hG dX9_countsFor_63 rfl ?_
      refine al_25 hG dX9_countsFor_64 R0 (by omega) (fun x8 ex8 lx8 ux8 => ?_)
      refine px_ic_le hG dX9_countsFor_65 (tgt := 72) (by decide) ⟨by omega, by omega⟩ ⟨by omega, by omega⟩ (fun c9 => ?_) (fun c9 => ?_)
      · refine px_iconst hG dX9_countsFor_72 ?_
        exact px_zret (st := []) hG dX9_countsFor_73 rfl (by omega) rfl (fun i1_1 j1_1 ee => by cases ee; exact ⟨_, rfl, rfl, ⟨by omega, by unfold pm_tn; first | rw [if_pos (by omega)] | rw [if_neg (by omega)]⟩⟩)
      · refine px_iconst hG dX9_countsFor_68 ?_
        refine px_goto hG dX9_countsFor_69 (tgt := 73) (by decide) ?_
        exact px_zret (st := []) hG dX9_countsFor_73 rfl (by omega) rfl (fun i1_1 j1_1 ee => by cases ee; exact ⟨_, rfl, rfl, ⟨by omega, by unfold pm_tn; first | rw [if_pos (by omega)] | rw [if_neg (by omega)]⟩⟩)
  · refine px_aload_n hG dX9_countsFor_15 rfl ?_
    refine gr_24_1 hG dX9_countsFor_16 fl_X9_15 R0 ?_
    refine px_iload_n hG dX9_countsFor_19 rfl ?_
    refine al_25 hG dX9_countsFor_20 R0 (by omega) (fun x10 ex10 lx10 ux10 => ?_)
    refine px_aload_n hG dX9_countsFor_21 rfl ?_
    refine gr_24_1 hG dX9_countsFor_22 fl_X9_15 R0 ?_
    refine px_iload_n hG dX9_countsFor_25 rfl ?_
    refine al_25 hG dX9_countsFor_26 R0 (by omega) (fun x11 ex11 lx11 ux11 => ?_)
    refine px_ic_ge hG dX9_countsFor_27 (tgt := 34) (by decide) ⟨by omega, by omega⟩ ⟨by omega, by omega⟩ (fun c12 => ?_) (fun c12 => ?_)
    · refine px_iconst hG dX9_countsFor_34 ?_
      exact px_zret (st := []) hG dX9_countsFor_35 rfl (by omega) rfl (fun i1_1 j1_1 ee => by cases ee; exact ⟨_, rfl, rfl, ⟨by omega, by unfold pm_tn; first | rw [if_pos (by omega)] | rw [if_neg (by omega)]⟩⟩)
    · refine px_iconst hG dX9_countsFor_30 ?_
      refine px_goto hG dX9_countsFor_31 (tgt := 35) (by decide) ?_
      exact px_zret (st := []) hG dX9_countsFor_35 rfl (by omega) rfl (fun i1_1 j1_1 ee => by cases ee; exact ⟨_, rfl, rfl, ⟨by omega, by unfold pm_tn; first | rw [if_pos (by omega)] | rw [if_neg (by omega)]⟩⟩))
def pre_X9_dinve (as : List pm_V) (n : Nat) (σ : pm_H) : Prop := as = [.inr (.inr (24, 0))] ∧ n = 122 ∧ pm_Rng σ ∧ (1 ≤ σ 24 0 0)
def po_X9_dinve (as : List pm_V) (_ : Nat) (σ : pm_H) (r : Option pm_V) (τ : pm_H) : Prop := as = [.inr (.inr (24, 0))] → ∃ v : Int, r = some (.inl v) ∧ σ = τ ∧ (v = pm_dj (σ 25 0) (σ 26 0) (σ 24 0 0).toNat)
set_option maxRecDepth 20000 in
set_option maxHeartbeats 4000000 in
theorem ct_X9_dinve : pm_Ct yX9_dinv cX9_dinv 4 (some .int) 1 0 pre_X9_dinve po_X9_dinve := pm_sound (ini := false) (by decide +kernel) pk_X9_dinv (fun h => absurd h (by decide)) (by
  rintro as n s0 ⟨rfl, rfl, R0, hpre⟩
  refine ⟨by decide, Nat.le_of_ble_eq_true rfl, fun G hG => ?_⟩
  have hG : pm_Rules (RX9, 1, 122, cX9_dinv, -1, (fun _ => 0), false, (some .int), po_X9_dinve [.inr (.inr (24, 0))] 122 s0) G := hG
  show G 0 [some (.inr (.inr (24, 0))), none, none, none] [] 122 s0
  have B := pb_24_0 R0
  refine px_iconst hG dX9_dinv_0 ?_
  refine px_istore_n hG dX9_dinv_1 (Nat.le_of_ble_eq_true rfl) (L2 := [some (.inr (.inr (24, 0))), some (.inl 0), none, none]) rfl ?_
  refine px_iconst hG dX9_dinv_2 ?_
  refine px_istore_n hG dX9_dinv_3 (Nat.le_of_ble_eq_true rfl) (L2 := [some (.inr (.inr (24, 0))), some (.inl 0), some (.inl 2), none]) rfl ?_
  have L4 : ∀ (N : Nat) (v1_1 : Int) (v2_2 : Int), ((2 ≤ v2_2 ∧ v2_2 ≤ 10000) ∧ (v1_1 = pm_dj (s0 25 0) (s0 26 0) (v2_2 - 1).toNat ∧ v2_2 ≤ s0 24 0 0 + 1)) → (10001 - v2_2).toNat < N → G 4 [some (.inr (.inr (24, 0))), some (.inl v1_1), some (.inl v2_2), none] [] 122 s0 := by
    intro N
    induction N with
    | zero => intro v1_1 v2_2 inv4 hm5; exact absurd hm5 (Nat.not_lt_zero _)
    | succ N ih3 =>
      intro v1_1 v2_2 inv4 hm5
      have W1 := (inv4.2).1
      have W2 := (inv4.2).2
      refine px_iload_n hG dX9_dinv_4 rfl ?_
      refine px_aload_n hG dX9_dinv_5 rfl ?_
      refine gi_24_0 hG dX9_dinv_6 fl_X9_9 R0 (fun x6 ex6 lx6 ux6 => ?_)
      refine px_ic_gt hG dX9_dinv_9 (tgt := 43) (by decide) ⟨by omega, by omega⟩ ⟨by omega, by omega⟩ (fun c7 => ?_) (fun c7 => ?_)
      · have Q : v2_2 - 1 = s0 24 0 0 := by omega
        rw [Q] at W1
        refine px_iload_n hG dX9_dinv_43 rfl ?_
        exact px_iret (st := []) hG dX9_dinv_44 rfl rfl (fun _ => by exact ⟨_, rfl, rfl, W1⟩)
      · refine px_iconst hG dX9_dinv_12 ?_
        refine px_istore_n hG dX9_dinv_13 (Nat.le_of_ble_eq_true rfl) (L2 := [some (.inr (.inr (24, 0))), some (.inl v1_1), some (.inl v2_2), some (.inl 1)]) rfl ?_
        have L14 : ∀ (N : Nat) (v1_8 : Int) (v3_9 : Int), ((1 ≤ v3_9 ∧ v3_9 ≤ 10000) ∧ (v1_8 = pm_dj (s0 25 0) (s0 26 0) (v2_2 - 1).toNat + pm_di (s0 25 0) (s0 26 0) v2_2 (v3_9 - 1).toNat ∧ v3_9 ≤ v2_2)) → (10001 - v3_9).toNat < N → G 14 [some (.inr (.inr (24, 0))), some (.inl v1_8), some (.inl v2_2), some (.inl v3_9)] [] 122 s0 := by
          intro N
          induction N with
          | zero => intro v1_8 v3_9 inv11 hm12; exact absurd hm12 (Nat.not_lt_zero _)
          | succ N ih10 =>
            intro v1_8 v3_9 inv11 hm12
            have U1 := (inv11.2).1
            have U2 := (inv11.2).2
            refine px_iload_n hG dX9_dinv_14 rfl ?_
            refine px_iload_n hG dX9_dinv_15 rfl ?_
            refine px_ic_ge hG dX9_dinv_16 (tgt := 37) (by decide) ⟨by omega, by omega⟩ ⟨by omega, by omega⟩ (fun c13 => ?_) (fun c13 => ?_)
            · have U5 : v1_8 = pm_dj (s0 25 0) (s0 26 0) (v2_2 - 1).toNat + pm_di (s0 25 0) (s0 26 0) v2_2 (v2_2 - 1).toNat := by
                have q : v3_9 = v2_2 := by omega
                rw [q] at U1
                exact U1
              refine px_iinc hG dX9_dinv_37 (Nat.le_of_ble_eq_true rfl) rfl (L2 := [some (.inr (.inr (24, 0))), some (.inl v1_8), some (.inl (v2_2 + 1)), some (.inl v3_9)]) rfl ?_
              refine px_goto hG dX9_dinv_40 (tgt := 4) (by decide) ?_
              refine px_weak hG (L2 := [some (.inr (.inr (24, 0))), some (.inl v1_8), some (.inl (v2_2 + 1)), none]) ⟨Or.inr rfl, Or.inr rfl, Or.inr rfl, Or.inl rfl, trivial⟩ ?_
              exact ih3 v1_8 (v2_2 + 1) (⟨by omega, ⟨by rw [pm_dj_s (by omega)]; exact U5, by omega⟩⟩) (by omega)
            · refine px_aload_n hG dX9_dinv_19 rfl ?_
              refine px_iload_n hG dX9_dinv_20 rfl ?_
              refine px_iload_n hG dX9_dinv_21 rfl ?_
              refine jv2 hG dX9_dinv_22 ct_X9_countsFore lk_X9_22 ⟨rfl, rfl⟩ (by decide) ⟨Nat.le_of_ble_eq_true rfl, Nat.le_of_ble_eq_true rfl, Nat.le_of_ble_eq_true rfl⟩ (Nat.le_of_ble_eq_true rfl) ⟨v3_9, v2_2, rfl, rfl, R0, by omega⟩ (fun r14 t15 pr14 => ?_)
              obtain ⟨x16, rfl, rfl, br14⟩ := pr14 _ _ rfl
              show G 25 [some (.inr (.inr (24, 0))), some (.inl v1_8), some (.inl v2_2), some (.inl v3_9)] [.inl x16] 122 s0
              have TI := br14.2
              refine px_if_eq hG dX9_dinv_25 (tgt := 31) (by decide) ⟨by omega, by omega⟩ (fun c17 => ?_) (fun c17 => ?_)
              · refine px_iinc hG dX9_dinv_31 (Nat.le_of_ble_eq_true rfl) rfl (L2 := [some (.inr (.inr (24, 0))), some (.inl v1_8), some (.inl v2_2), some (.inl (v3_9 + 1))]) rfl ?_
                refine px_goto hG dX9_dinv_34 (tgt := 14) (by decide) ?_
                exact ih10 v1_8 (v3_9 + 1) (⟨by omega, ⟨by rw [pm_di_s (by omega) TI]; omega, by omega⟩⟩) (by omega)
              · refine px_iinc hG dX9_dinv_28 (Nat.le_of_ble_eq_true rfl) rfl (L2 := [some (.inr (.inr (24, 0))), some (.inl (v1_8 + 1)), some (.inl v2_2), some (.inl v3_9)]) rfl ?_
                refine px_iinc hG dX9_dinv_31 (Nat.le_of_ble_eq_true rfl) rfl (L2 := [some (.inr (.inr (24, 0))), some (.inl (v1_8 + 1)), some (.inl v2_2), some (.inl (v3_9 + 1))]) rfl ?_
                refine px_goto hG dX9_dinv_34 (tgt := 14) (by decide) ?_
                exact ih10 (v1_8 + 1) (v3_9 + 1) (⟨by omega, ⟨by rw [pm_di_s (by omega) TI]; omega, by omega⟩⟩) (by omega)
        exact L14 _ v1_1 1 (⟨by omega, ⟨by rw [show ((1 : Int) - 1).toNat = 0 from rfl]; show _ = _ + 0; omega, by omega⟩⟩) (Nat.lt_succ_self _)
  exact L4 _ 0 2 (⟨by omega, ⟨rfl, by omega⟩⟩) (Nat.lt_succ_self _))
def pre_X3_rowsWithe (as : List pm_V) (n : Nat) (σ : pm_H) : Prop := ∃ n1 ar di : Int, as = [.inr (.inr (27, 0)), .inl n1, .inl ar, .inl di] ∧ n = 122 ∧ pm_Rng σ ∧ (1 ≤ n1 ∧ n1 ≤ 5 ∧ 0 ≤ ar ∧ ar ≤ 10 ∧ 0 ≤ di ∧ di ≤ 10)
def po_X3_rowsWithe (as : List pm_V) (_ : Nat) (σ : pm_H) (r : Option pm_V) (τ : pm_H) : Prop := ∀ n1 ar di : Int, as = [.inr (.inr (27, 0)), .inl n1, .inl ar, .inl di] → ∃ v : Int, r = some (.inl v) ∧ σ = τ ∧ (v = σ 29 n1 (ar * 11 + di))
set_option maxRecDepth 20000 in
set_option maxHeartbeats 4000000 in
theorem ct_X3_rowsWithe : pm_Ct yX3_rowsWith cX3_rowsWith 4 (some .int) 1 0 pre_X3_rowsWithe po_X3_rowsWithe := pm_sound (ini := false) (by decide +kernel) pk_X3_rowsWith (fun h => absurd h (by decide)) (by
  rintro as n s0 ⟨n1, ar, di, rfl, rfl, R0, hpre⟩
  refine ⟨by decide, Nat.le_of_ble_eq_true rfl, fun G hG => ?_⟩
  have hG : pm_Rules (RX3, 1, 122, cX3_rowsWith, -1, (fun _ => 0), false, (some .int), po_X3_rowsWithe [.inr (.inr (27, 0)), .inl n1, .inl ar, .inl di] 122 s0) G := hG
  show G 0 [some (.inr (.inr (27, 0))), some (.inl n1), some (.inl ar), some (.inl di)] [] 122 s0
  refine px_aload_n hG dX3_rowsWith_0 rfl ?_
  refine gr_27_1 hG dX3_rowsWith_1 fl_X3_17 R0 ?_
  refine px_iload_n hG dX3_rowsWith_4 rfl ?_
  refine aa_29 hG dX3_rowsWith_5 (by omega) ?_
  refine px_aload_n hG dX3_rowsWith_6 rfl ?_
  refine px_iload_n hG dX3_rowsWith_7 rfl ?_
  refine px_iload_n hG dX3_rowsWith_8 rfl ?_
  refine jv2 hG dX3_rowsWith_9 ct_X3_element lk_X3_43 ⟨rfl, rfl⟩ (by decide) ⟨Nat.le_of_ble_eq_true rfl, Nat.le_of_ble_eq_true rfl, Nat.le_of_ble_eq_true rfl⟩ (Nat.le_of_ble_eq_true rfl) ⟨ar, di, rfl, rfl, R0, by omega⟩ (fun r1 t2 pr1 => ?_)
  obtain ⟨x3, rfl, rfl, br1⟩ := pr1 _ _ rfl
  show G 12 [some (.inr (.inr (27, 0))), some (.inl n1), some (.inl ar), some (.inl di)] [.inl x3, .inr (.inr (29, n1))] 122 s0
  have BE := br1
  refine al_29 hG dX3_rowsWith_12 R0 (by omega) (by omega) (fun x4 ex4 lx4 ux4 => ?_)
  have X := ex4
  rw [BE] at X
  exact px_iret (st := []) hG dX3_rowsWith_13 rfl rfl (fun n1_1 ar_1 di_1 ee => by cases ee; exact ⟨_, rfl, rfl, X.symm⟩))
def pre_X3_fille (as : List pm_V) (n : Nat) (σ : pm_H) : Prop := ∃ n1 : Int, as = [.inr (.inr (27, 0)), .inl n1, .inr (.inr (11, 0)), .inr (.inr (24, 0))] ∧ n = 122 ∧ pm_Rng σ ∧ (1 ≤ n1 ∧ n1 ≤ 5 ∧ pm_PF σ)
def po_X3_fille (as : List pm_V) (_ : Nat) (σ : pm_H) (r : Option pm_V) (τ : pm_H) : Prop := ∀ n1 : Int, as = [.inr (.inr (27, 0)), .inl n1, .inr (.inr (11, 0)), .inr (.inr (24, 0))] → r = none ∧ pm_Rng τ ∧ pm_Fr [(28, none), (29, none), (30, none), (24, some 0), (25, none), (26, none)] σ τ ∧ (pm_PF τ ∧ τ 28 0 n1 = 1)
set_option maxRecDepth 20000 in
set_option maxHeartbeats 4000000 in
theorem ct_X3_fille : pm_Ct yX3_fill cX3_fill 6 none 2 0 pre_X3_fille po_X3_fille := pm_sound (ini := false) (by decide +kernel) pk_X3_fill (fun h => absurd h (by decide)) (by
  rintro as n s0 ⟨n1, rfl, rfl, R0, hpre⟩
  refine ⟨by decide, Nat.le_of_ble_eq_true rfl, fun G hG => ?_⟩
  have hG : pm_Rules (RX3, 2, 122, cX3_fill, -1, (fun _ => 0), false, none, po_X3_fille [.inr (.inr (27, 0)), .inl n1, .inr (.inr (11, 0)), .inr (.inr (24, 0))] 122 s0) G := hG
  show G 0 [some (.inr (.inr (27, 0))), some (.inl n1), some (.inr (.inr (11, 0))), some (.inr (.inr (24, 0))), none, none] [] 122 s0
  obtain ⟨m, hm⟩ : ∃ m : Nat, (m : Int) = n1 := ⟨n1.toNat, by omega⟩
  have PF := hpre.2.2
  have mE : n1.toNat = m := by omega
  refine px_aload_n hG dX3_fill_0 rfl ?_
  refine gr_27_0 hG dX3_fill_1 fl_X3_9 R0 ?_
  refine px_iload_n hG dX3_fill_4 rfl ?_
  refine al_28 hG dX3_fill_5 R0 (by omega) (fun x1 ex1 lx1 ux1 => ?_)
  have X5 := ex1
  refine px_if_eq hG dX3_fill_6 (tgt := 10) (by decide) ⟨by omega, by omega⟩ (fun c2 => ?_) (fun c2 => ?_)
  · have Z9 : ∀ i : Int, s0 29 n1 i = 0 := fun i => by rw [← hm]; exact (PF m (by omega) (by omega)).2 (by rw [hm]; omega) i
    refine px_aload_n hG dX3_fill_10 rfl ?_
    refine gr_27_0 hG dX3_fill_11 fl_X3_9 R0 ?_
    refine px_iload_n hG dX3_fill_14 rfl ?_
    refine px_iconst hG dX3_fill_15 ?_
    refine as_28 hG dX3_fill_16 R0 (by omega) (by omega) (fun s3 qs3 Rs3 => ?_)
    have Fs3 := pm_Fr_up ((pm_Fr_rf : pm_Fr [(28, none), (29, none), (30, none), (24, some 0), (25, none), (26, none)] s0 s0)) qs3 (M := [(28, none), (29, none), (30, none), (24, some 0), (25, none), (26, none)]) rfl
    have E0 := qs3
    have K0 : pm_KF s0 s3 n1 := pm_KF_0 E0
    refine px_iconst hG dX3_fill_17 ?_
    refine px_istore hG dX3_fill_18 (Nat.le_of_ble_eq_true rfl) (L2 := [some (.inr (.inr (27, 0))), some (.inl n1), some (.inr (.inr (11, 0))), some (.inr (.inr (24, 0))), some (.inl 1), none]) rfl ?_
    have L20 : ∀ (N : Nat) (v4_4 : Int) (s5 : pm_H), pm_Rng s5 → pm_Fr [(28, none), (29, none), (30, none), (24, some 0), (25, none), (26, none)] s0 s5 → ((1 ≤ v4_4 ∧ v4_4 ≤ 10000) ∧ ((∀ i : Int, 1 ≤ i → i < v4_4 → s5 30 0 i = 1) ∧ pm_KF s0 s5 n1 ∧ ∀ r i : Int, s5 29 r i = s0 29 r i)) → (10001 - v4_4).toNat < N → G 20 [some (.inr (.inr (27, 0))), some (.inl n1), some (.inr (.inr (11, 0))), some (.inr (.inr (24, 0))), some (.inl v4_4), none] [] 122 s5 := by
      intro N
      induction N with
      | zero => intro v4_4 s5 R6 F7 inv9 hm10; exact absurd hm10 (Nat.not_lt_zero _)
      | succ N ih8 =>
        intro v4_4 s5 R6 F7 inv9 hm10
        have W1 := (inv9.2).1
        have W2 := (inv9.2).2.1
        have W3 := (inv9.2).2.2
        refine px_iload hG dX3_fill_20 rfl ?_
        refine px_iload_n hG dX3_fill_22 rfl ?_
        have J40_12 : ((v4_4 > n1)) → G 40 [some (.inr (.inr (27, 0))), some (.inl n1), some (.inr (.inr (11, 0))), some (.inr (.inr (24, 0))), none, none] [] 122 s5 := by
          intro inv13
          refine px_aload_n hG dX3_fill_40 rfl ?_
          refine px_iload_n hG dX3_fill_41 rfl ?_
          refine px_iload_n hG dX3_fill_42 rfl ?_
          refine jv2 hG dX3_fill_43 ct_X0_howManye lk_X3_24 ⟨rfl, rfl⟩ (by decide) ⟨Nat.le_of_ble_eq_true rfl, Nat.le_of_ble_eq_true rfl, Nat.le_of_ble_eq_true rfl⟩ (Nat.le_of_ble_eq_true rfl) ⟨n1, n1, rfl, rfl, R6, by omega⟩ (fun r14 t15 pr14 => ?_)
          obtain ⟨z16, rfl, rfl, br14⟩ := pr14 _ _ rfl
          show G 46 [some (.inr (.inr (27, 0))), some (.inl n1), some (.inr (.inr (11, 0))), some (.inr (.inr (24, 0))), none, none] [.inr (.inl z16)] 122 s5
          have HM := br14
          rw [mE] at HM
          refine px_lstore hG dX3_fill_46 (Nat.le_of_ble_eq_true rfl) (L2 := [some (.inr (.inr (27, 0))), some (.inl n1), some (.inr (.inr (11, 0))), some (.inr (.inr (24, 0))), some (.inr (.inl z16)), none]) rfl ?_
          have L48 : ∀ (N : Nat) (v4_17 : Int) (s18 : pm_H), pm_Rng s18 → pm_Fr [(28, none), (29, none), (30, none), (24, some 0), (25, none), (26, none)] s0 s18 → ((pm_KF s0 s18 n1 ∧ (∀ r i : Int, r ≠ n1 → s18 29 r i = s0 29 r i) ∧ pm_FI s18 m v4_17)) → (v4_17).toNat < N → G 48 [some (.inr (.inr (27, 0))), some (.inl n1), some (.inr (.inr (11, 0))), some (.inr (.inr (24, 0))), some (.inr (.inl v4_17)), none] [] 122 s18 := by
            intro N
            induction N with
            | zero => intro v4_17 s18 R19 F20 inv22 hm23; exact absurd hm23 (Nat.not_lt_zero _)
            | succ N ih21 =>
              intro v4_17 s18 R19 F20 inv22 hm23
              have U1 := (inv22).1
              have U2 := (inv22).2.1
              have U3 := (inv22).2.2
              have FL := pm_FI_le U3 (by omega)
              refine px_lload hG dX3_fill_48 rfl ?_
              refine px_lconst hG dX3_fill_50 ?_
              show G 51 [some (.inr (.inr (27, 0))), some (.inl n1), some (.inr (.inr (11, 0))), some (.inr (.inr (24, 0))), some (.inr (.inl v4_17)), none] [.inr (.inl 0), .inr (.inl v4_17)] 122 s18
              refine px_lcmp hG dX3_fill_51 ⟨by omega, by omega⟩ ⟨by omega, by omega⟩ (fun x24 bx24 => ?_)
              refine px_if_le hG dX3_fill_52 (tgt := 107) (by decide) ⟨by omega, by omega⟩ (fun c25 => ?_) (fun c25 => ?_)
              · exact px_vret (st := []) hG dX3_fill_107 rfl rfl (fun n1_1 ee => by cases ee; exact ⟨rfl, R19, F20, pm_PF_e PF U1 U2 (pm_FI_Z U3 (by omega)) hm⟩)
              · obtain ⟨u, u1, u2, u3, u4, u5⟩ := pm_FI_A U3 (by omega)
                have GD := (pm_gN_iff u2).mp u3
                obtain ⟨f30, hf30⟩ : ∃ f : Int → Int, f = s18 30 0 := ⟨_, rfl⟩
                rw [← hf30] at u2 GD
                have P5 := pm_pw5 (n := m) (by omega)
                refine px_aload_n hG dX3_fill_55 rfl ?_
                refine px_aload_n hG dX3_fill_56 rfl ?_
                refine gr_27_2 hG dX3_fill_57 fl_X3_20 R19 ?_
                refine px_iload_n hG dX3_fill_60 rfl ?_
                refine jv2 hG dX3_fill_61 ct_X9_buildPe lk_X3_30 ⟨rfl, rfl⟩ (by decide) ⟨Nat.le_of_ble_eq_true rfl, Nat.le_of_ble_eq_true rfl, Nat.le_of_ble_eq_true rfl⟩ (Nat.le_of_ble_eq_true rfl) ⟨n1, rfl, rfl, R19, by omega⟩ (fun r26 t28 pr26 => ?_)
                obtain ⟨rfl, Rt28, Ft28, br26⟩ := pr26 _ rfl
                have Ff30 := pm_Fr_tr F20 Ft28 (M := [(28, none), (29, none), (30, none), (24, some 0), (25, none), (26, none)]) rfl
                show G 64 [some (.inr (.inr (27, 0))), some (.inl n1), some (.inr (.inr (11, 0))), some (.inr (.inr (24, 0))), some (.inr (.inl v4_17)), none] [] 122 t28
                have HB := br26
                have FB := Ft28
                rw [mE, ← hf30] at HB
                have H1 := HB.2.1 GD
                have H2 := HB.2.2 GD
                have NE : (t28 24 0 0).toNat = m := by omega
                have K1 := pm_KF_c U1 (fun i => FB 28 0 i rfl)
                have R1 : ∀ r i : Int, r ≠ n1 → t28 29 r i = s0 29 r i := fun r i h => (FB 29 r i rfl).trans (U2 r i h)
                have T1 : pm_TP t28 m u := pm_TP_c u5 (fun i => FB 29 m i rfl)
                refine px_aload_n hG dX3_fill_64 rfl ?_
                refine gr_27_1 hG dX3_fill_65 fl_X3_17 Rt28 ?_
                refine px_iload_n hG dX3_fill_68 rfl ?_
                refine aa_29 hG dX3_fill_69 (by omega) ?_
                refine px_aload_n hG dX3_fill_70 rfl ?_
                refine px_aload_n hG dX3_fill_71 rfl ?_
                refine jv0 hG dX3_fill_72 ct_X9_areae lk_X3_36 ⟨rfl, rfl⟩ (by decide) ⟨Nat.le_of_ble_eq_true rfl, Nat.le_of_ble_eq_true rfl, Nat.le_of_ble_eq_true rfl⟩ (Nat.le_of_ble_eq_true rfl) ⟨rfl, rfl, Rt28⟩ (fun r31 t32 pr31 => ?_)
                obtain ⟨x33, rfl, rfl, br31⟩ := pr31 rfl
                show G 75 [some (.inr (.inr (27, 0))), some (.inl n1), some (.inr (.inr (11, 0))), some (.inr (.inr (24, 0))), some (.inr (.inl v4_17)), none] [.inl x33, .inr (.inr (27, 0)), .inr (.inr (29, n1))] 122 t28
                have A0 := br31.1
                have A1 := br31.2 (fun j h0 h1 => H1 j h0 (by omega))
                have A2 := pm_t1_5 (a := (t28 24 0 0).toNat) (by omega)
                have A3 : x33 = pm_ar m f30 := A0.trans (by rw [NE]; exact pm_sm_cg (fun j a b => (H2.2 j a (by omega)).2))
                refine px_aload_n hG dX3_fill_75 rfl ?_
                refine jv0 hG dX3_fill_76 ct_X9_dinve lk_X3_40 ⟨rfl, rfl⟩ (by decide) ⟨Nat.le_of_ble_eq_true rfl, Nat.le_of_ble_eq_true rfl, Nat.le_of_ble_eq_true rfl⟩ (Nat.le_of_ble_eq_true rfl) ⟨rfl, rfl, Rt28, by omega⟩ (fun r34 t35 pr34 => ?_)
                obtain ⟨x36, rfl, rfl, br34⟩ := pr34 rfl
                show G 79 [some (.inr (.inr (27, 0))), some (.inl n1), some (.inr (.inr (11, 0))), some (.inr (.inr (24, 0))), some (.inr (.inl v4_17)), none] [.inl x36, .inl x33, .inr (.inr (27, 0)), .inr (.inr (29, n1))] 122 t28
                have D0 := br34
                have D1 := pm_dj_b (t28 25 0) (t28 26 0) (t28 24 0 0).toNat
                have D3 : x36 = pm_dw m f30 := D0.trans (by rw [NE]; exact pm_dj_cg (fun q a b => H2.2 q a (by omega)) (Nat.le_refl m))
                refine jv2 hG dX3_fill_79 ct_X3_element lk_X3_43 ⟨rfl, rfl⟩ (by decide) ⟨Nat.le_of_ble_eq_true rfl, Nat.le_of_ble_eq_true rfl, Nat.le_of_ble_eq_true rfl⟩ (Nat.le_of_ble_eq_true rfl) ⟨x33, x36, rfl, rfl, Rt28, by omega⟩ (fun r37 t38 pr37 => ?_)
                obtain ⟨x39, rfl, rfl, br37⟩ := pr37 _ _ rfl
                show G 82 [some (.inr (.inr (27, 0))), some (.inl n1), some (.inr (.inr (11, 0))), some (.inr (.inr (24, 0))), some (.inr (.inl v4_17)), none] [.inl x39, .inr (.inr (29, n1))] 122 t28
                have IE := br37
                refine px_dup2 hG dX3_fill_82 ?_
                refine al_29 hG dX3_fill_83 Rt28 (by omega) (by omega) (fun x40 ex40 lx40 ux40 => ?_)
                have X8 := ex40
                refine px_iconst hG dX3_fill_84 ?_
                refine px_iadd hG dX3_fill_85 ?_
                refine as_29 hG dX3_fill_86 Rt28 (by omega) (by omega) (fun s41 qs41 Rs41 => ?_)
                have Fs41 := pm_Fr_up (Ff30) qs41 (M := [(28, none), (29, none), (30, none), (24, some 0), (25, none), (26, none)]) rfl
                have E2 := qs41
                have K2 := pm_KF_c K1 (fun i => pm_nec E2 (by decide))
                have R2 : ∀ r i : Int, r ≠ n1 → s41 29 r i = s0 29 r i := fun r i h => (pm_ner E2 h).trans (R1 r i h)
                have T2 := pm_TP_s T1 u2 u3 E2 hm X8 IE A3 D3 (by omega) (by omega) (by omega)
                have e30 : s41 30 0 = f30 := by rw [hf30]; exact funext fun i => (pm_nec E2 (by decide)).trans (FB 30 0 i rfl)
                refine px_aload_n hG dX3_fill_87 rfl ?_
                refine px_aload_n hG dX3_fill_88 rfl ?_
                refine gr_27_2 hG dX3_fill_89 fl_X3_20 Rs41 ?_
                refine px_iload_n hG dX3_fill_92 rfl ?_
                refine px_iload_n hG dX3_fill_93 rfl ?_
                refine jv3 hG dX3_fill_94 ct_X0_stepOnPe lk_X3_47 ⟨rfl, rfl⟩ (by decide) ⟨Nat.le_of_ble_eq_true rfl, Nat.le_of_ble_eq_true rfl, Nat.le_of_ble_eq_true rfl⟩ (Nat.le_of_ble_eq_true rfl) ⟨n1, n1, rfl, rfl, Rs41, by omega⟩ (fun r42 t44 pr42 => ?_)
                obtain ⟨x45, rfl, Rt44, Ft44, br42⟩ := pr42 _ _ rfl
                have Ff46 := pm_Fr_tr Fs41 Ft44 (M := [(28, none), (29, none), (30, none), (24, some 0), (25, none), (26, none)]) rfl
                show G 97 [some (.inr (.inr (27, 0))), some (.inl n1), some (.inr (.inr (11, 0))), some (.inr (.inr (24, 0))), some (.inr (.inl v4_17)), none] [.inl x45] 122 t44
                have SB := br42
                rw [e30, ← hm, Int.toNat_natCast] at SB
                have T3 : pm_TP t44 m (u + 1) := pm_TP_c T2 (fun i => Ft44 29 m i rfl)
                have NX := pm_FI_s (by omega) (by omega) u2 u1 u3 u4 T3 SB.1 SB.2.2.1 SB.2.2.2 (SB.2.1 GD)
                have K3 := pm_KF_c K2 (fun i => Ft44 28 0 i rfl)
                have R3 : ∀ r i : Int, r ≠ n1 → t44 29 r i = s0 29 r i := fun r i h => (Ft44 29 r i rfl).trans (R2 r i h)
                refine px_popi hG dX3_fill_97 ?_
                refine px_lload hG dX3_fill_98 rfl ?_
                refine px_lconst hG dX3_fill_100 ?_
                show G 101 [some (.inr (.inr (27, 0))), some (.inl n1), some (.inr (.inr (11, 0))), some (.inr (.inr (24, 0))), some (.inr (.inl v4_17)), none] [.inr (.inl 1), .inr (.inl v4_17)] 122 t44
                refine px_lsub hG dX3_fill_101 ?_
                refine px_lstore hG dX3_fill_102 (Nat.le_of_ble_eq_true rfl) (L2 := [some (.inr (.inr (27, 0))), some (.inl n1), some (.inr (.inr (11, 0))), some (.inr (.inr (24, 0))), some (.inr (.inl (v4_17 - 1))), none]) rfl ?_
                refine px_goto hG dX3_fill_104 (tgt := 48) (by decide) ?_
                exact ih21 (v4_17 - 1) t44 Rt44 Ff46 (⟨K3, R3, NX⟩) (by omega)
          exact L48 _ z16 s5 R6 F7 (⟨W2, fun r i _ => W3 r i, pm_FI_0 (by omega) (by omega) (fun j a b => W1 j a (by omega)) (fun i => by rw [hm, W3]; exact Z9 i) HM⟩) (Nat.lt_succ_self _)
        refine px_ic_gt hG dX3_fill_23 (tgt := 40) (by decide) ⟨by omega, by omega⟩ ⟨by omega, by omega⟩ (fun c11 => ?_) (fun c11 => ?_)
        · refine px_weak hG (L2 := [some (.inr (.inr (27, 0))), some (.inl n1), some (.inr (.inr (11, 0))), some (.inr (.inr (24, 0))), none, none]) ⟨Or.inr rfl, Or.inr rfl, Or.inr rfl, Or.inr rfl, Or.inl rfl, Or.inr rfl, trivial⟩ ?_
          exact J40_12  (by omega)
        · refine px_aload_n hG dX3_fill_26 rfl ?_
          refine gr_27_2 hG dX3_fill_27 fl_X3_20 R6 ?_
          refine px_iload hG dX3_fill_30 rfl ?_
          refine px_iconst hG dX3_fill_32 ?_
          refine as_30 hG dX3_fill_33 R6 (by omega) (by omega) (fun s47 qs47 Rs47 => ?_)
          have Fs47 := pm_Fr_up (F7) qs47 (M := [(28, none), (29, none), (30, none), (24, some 0), (25, none), (26, none)]) rfl
          have E1 := qs47
          refine px_iinc hG dX3_fill_34 (Nat.le_of_ble_eq_true rfl) rfl (L2 := [some (.inr (.inr (27, 0))), some (.inl n1), some (.inr (.inr (11, 0))), some (.inr (.inr (24, 0))), some (.inl (v4_4 + 1)), none]) rfl ?_
          refine px_goto hG dX3_fill_37 (tgt := 20) (by decide) ?_
          exact ih8 (v4_4 + 1) s47 Rs47 Fs47 (⟨by omega, ⟨fun i h0 h1 => pm_ostep W1 E1 i h0 h1, pm_KF_c W2 (fun i => pm_nec E1 (by decide)), fun r i => (pm_nec E1 (by decide)).trans (W3 r i)⟩⟩) (by omega)
    exact L20 _ 1 s3 Rs3 Fs3 (⟨by omega, ⟨fun i h0 h1 => by omega, K0, fun r i => pm_nec E0 (by decide)⟩⟩) (Nat.lt_succ_self _)
  · exact px_vret (st := []) hG dX3_fill_9 rfl rfl (fun n1_1 ee => by cases ee; exact ⟨rfl, R0, pm_Fr_rf, ⟨PF, by omega⟩⟩))
def pre_X10_bothe (as : List pm_V) (n : Nat) (σ : pm_H) : Prop := ∃ aa ab ac : Int, as = [.inr (.inr (0, 0)), .inl aa, .inl ab, .inl ac] ∧ n = 122 ∧ pm_Rng σ ∧ (pm_in aa ∧ pm_in ab ∧ pm_in ac ∧ (σ 3 0 3 ≤ σ 3 0 1 ∧ (σ 3 0 0 = 2 → 0 ≤ σ 3 0 2 ∧ σ 3 0 2 ≤ 9)) ∧ pm_PF σ)
def po_X10_bothe (as : List pm_V) (_ : Nat) (σ : pm_H) (r : Option pm_V) (τ : pm_H) : Prop := ∀ aa ab ac : Int, as = [.inr (.inr (0, 0)), .inl aa, .inl ab, .inl ac] → ∃ v : Int, r = some (.inl v) ∧ pm_Rng τ ∧ pm_Fr [(24, some 0), (25, none), (26, none), (28, none), (29, none), (30, none)] σ τ ∧ ((τ 3 0 3 ≤ τ 3 0 1 ∧ (τ 3 0 0 = 2 → 0 ≤ τ 3 0 2 ∧ τ 3 0 2 ≤ 9)) ∧ pm_PF τ ∧ pm_BO aa ab ac v)
set_option maxRecDepth 20000 in
set_option maxHeartbeats 4000000 in
theorem ct_X10_bothe : pm_Ct yX10_both cX10_both 4 (some .int) 3 0 pre_X10_bothe po_X10_bothe := pm_sound (ini := false) (by decide +kernel) pk_X10_both (fun h => absurd h (by decide)) (by
  rintro as n s0 ⟨aa, ab, ac, rfl, rfl, R0, hpre⟩
  refine ⟨by decide, Nat.le_of_ble_eq_true rfl, fun G hG => ?_⟩
  have hG : pm_Rules (RX10, 3, 122, cX10_both, -1, (fun _ => 0), false, (some .int), po_X10_bothe [.inr (.inr (0, 0)), .inl aa, .inl ab, .inl ac] 122 s0) G := hG
  show G 0 [some (.inr (.inr (0, 0))), some (.inl aa), some (.inl ab), some (.inl ac)] [] 122 s0
  have B0 := pb_3_0 R0
  have B1 := pb_3_1 R0
  have B2 := pb_3_2 R0
  have B3 := pb_3_3 R0
  have PF := hpre.2.2.2.2
  refine px_iload_n hG dX10_both_0 rfl ?_
  refine px_iconst hG dX10_both_1 ?_
  refine px_ic_lt hG dX10_both_2 (tgt := 10) (by decide) ⟨by omega, by omega⟩ ⟨by omega, by omega⟩ (fun c1 => ?_) (fun c1 => ?_)
  · refine px_iconst hG dX10_both_10 ?_
    exact px_iret (st := []) hG dX10_both_11 rfl rfl (fun aa_1 ab_1 ac_1 ee => by cases ee; exact ⟨_, rfl, R0, pm_Fr_rf, ⟨by omega, PF, Or.inl ⟨by omega, rfl⟩⟩⟩)
  · refine px_iload_n hG dX10_both_5 rfl ?_
    refine px_iconst hG dX10_both_6 ?_
    refine px_ic_le hG dX10_both_7 (tgt := 12) (by decide) ⟨by omega, by omega⟩ ⟨by omega, by omega⟩ (fun c2 => ?_) (fun c2 => ?_)
    · refine px_iload_n hG dX10_both_12 rfl ?_
      refine px_if_lt hG dX10_both_13 (tgt := 32) (by decide) ⟨by omega, by omega⟩ (fun c3 => ?_) (fun c3 => ?_)
      · refine px_iconst hG dX10_both_32 ?_
        exact px_iret (st := []) hG dX10_both_33 rfl rfl (fun aa_1 ab_1 ac_1 ee => by cases ee; exact ⟨_, rfl, R0, pm_Fr_rf, ⟨by omega, PF, Or.inr ⟨by omega, Or.inl ⟨by omega, rfl⟩⟩⟩⟩)
      · refine px_iload_n hG dX10_both_16 rfl ?_
        refine px_bipush hG dX10_both_17 (by decide) ?_
        refine px_ic_gt hG dX10_both_19 (tgt := 32) (by decide) ⟨by omega, by omega⟩ ⟨by omega, by omega⟩ (fun c4 => ?_) (fun c4 => ?_)
        · refine px_iconst hG dX10_both_32 ?_
          exact px_iret (st := []) hG dX10_both_33 rfl rfl (fun aa_1 ab_1 ac_1 ee => by cases ee; exact ⟨_, rfl, R0, pm_Fr_rf, ⟨by omega, PF, Or.inr ⟨by omega, Or.inl ⟨by omega, rfl⟩⟩⟩⟩)
        · refine px_iload_n hG dX10_both_22 rfl ?_
          refine px_if_lt hG dX10_both_23 (tgt := 32) (by decide) ⟨by omega, by omega⟩ (fun c5 => ?_) (fun c5 => ?_)
          · refine px_iconst hG dX10_both_32 ?_
            exact px_iret (st := []) hG dX10_both_33 rfl rfl (fun aa_1 ab_1 ac_1 ee => by cases ee; exact ⟨_, rfl, R0, pm_Fr_rf, ⟨by omega, PF, Or.inr ⟨by omega, Or.inl ⟨by omega, rfl⟩⟩⟩⟩)
          · refine px_iload_n hG dX10_both_26 rfl ?_
            refine px_bipush hG dX10_both_27 (by decide) ?_
            refine px_ic_le hG dX10_both_29 (tgt := 34) (by decide) ⟨by omega, by omega⟩ ⟨by omega, by omega⟩ (fun c6 => ?_) (fun c6 => ?_)
            · refine px_aload_n hG dX10_both_34 rfl ?_
              refine gr_0_6 hG dX10_both_35 fl_X10_59 R0 ?_
              refine px_iload_n hG dX10_both_38 rfl ?_
              refine px_aload_n hG dX10_both_39 rfl ?_
              refine gr_0_2 hG dX10_both_40 fl_X10_31 R0 ?_
              refine px_aload_n hG dX10_both_43 rfl ?_
              refine gr_0_5 hG dX10_both_44 fl_X10_52 R0 ?_
              refine jv3 hG dX10_both_47 ct_X3_fille lk_X10_287 ⟨rfl, rfl⟩ (by decide) ⟨Nat.le_of_ble_eq_true rfl, Nat.le_of_ble_eq_true rfl, Nat.le_of_ble_eq_true rfl⟩ (Nat.le_of_ble_eq_true rfl) ⟨aa, rfl, rfl, R0, ⟨by omega, by omega, PF⟩⟩ (fun r7 t9 pr7 => ?_)
              obtain ⟨rfl, Rt9, Ft9, br7⟩ := pr7 _ rfl
              have Ff11 := pm_Fr_mono Ft9 (M := [(24, some 0), (25, none), (26, none), (28, none), (29, none), (30, none)]) rfl
              have jj12 := Ft9 3 0 0 rfl
              have jj13 := Ft9 3 0 1 rfl
              have jj14 := Ft9 3 0 2 rfl
              have jj15 := Ft9 3 0 3 rfl
              show G 50 [some (.inr (.inr (0, 0))), some (.inl aa), some (.inl ab), some (.inl ac)] [] 122 t9
              have FB := br7
              refine px_aload_n hG dX10_both_50 rfl ?_
              refine gr_0_6 hG dX10_both_51 fl_X10_59 Rt9 ?_
              refine px_iload_n hG dX10_both_54 rfl ?_
              refine px_iload_n hG dX10_both_55 rfl ?_
              refine px_iload_n hG dX10_both_56 rfl ?_
              refine jv3 hG dX10_both_57 ct_X3_rowsWithe lk_X10_291 ⟨rfl, rfl⟩ (by decide) ⟨Nat.le_of_ble_eq_true rfl, Nat.le_of_ble_eq_true rfl, Nat.le_of_ble_eq_true rfl⟩ (Nat.le_of_ble_eq_true rfl) ⟨aa, ab, ac, rfl, rfl, Rt9, by omega⟩ (fun r16 t17 pr16 => ?_)
              obtain ⟨x18, rfl, rfl, br16⟩ := pr16 _ _ _ rfl
              show G 60 [some (.inr (.inr (0, 0))), some (.inl aa), some (.inl ab), some (.inl ac)] [.inl x18] 122 t9
              have RB := br16
              have jj19 := Ff11 3 0 0 rfl
              have jj20 := Ff11 3 0 1 rfl
              have jj21 := Ff11 3 0 2 rfl
              have jj22 := Ff11 3 0 3 rfl
              exact px_iret (st := []) hG dX10_both_60 rfl rfl (fun aa_1 ab_1 ac_1 ee => by cases ee; exact ⟨_, rfl, Rt9, Ff11, ⟨by omega, FB.1, pm_BO_c FB.1 FB.2 RB (by omega) (by omega)⟩⟩)
            · refine px_iconst hG dX10_both_32 ?_
              exact px_iret (st := []) hG dX10_both_33 rfl rfl (fun aa_1 ab_1 ac_1 ee => by cases ee; exact ⟨_, rfl, R0, pm_Fr_rf, ⟨by omega, PF, Or.inr ⟨by omega, Or.inl ⟨by omega, rfl⟩⟩⟩⟩)
    · refine px_iconst hG dX10_both_10 ?_
      exact px_iret (st := []) hG dX10_both_11 rfl rfl (fun aa_1 ab_1 ac_1 ee => by cases ee; exact ⟨_, rfl, R0, pm_Fr_rf, ⟨by omega, PF, Or.inl ⟨by omega, rfl⟩⟩⟩))
