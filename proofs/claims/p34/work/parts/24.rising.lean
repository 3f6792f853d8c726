/-! ===== the model: rising rows ===== -/
def pm_rw (n : Int) : Nat → Nat → Int
  | 0 => fun _ => 1
  | d + 1 => fun u => pm_sum (fun w => if 11 - (w : Int) ≤ n - d then pm_rw n d (w + 1) else 0) u
theorem pm_rw_0 (n : Int) (u : Nat) : pm_rw n 0 u = 1 := rfl
theorem pm_rw_s (n : Int) (d u : Nat) : pm_rw n (d + 1) (u + 1) = pm_rw n (d + 1) u + (if 11 - (u : Int) ≤ n - d then pm_rw n d (u + 1) else 0) := rfl
theorem pm_rw_00 (n : Int) (d : Nat) : pm_rw n (d + 1) 0 = 0 := rfl
theorem pm_rw_b (n : Int) (d : Nat) : ∀ u : Nat, u ≤ 11 → 0 ≤ pm_rw n d u ∧ pm_rw n d u ≤ pm_p d := by
  induction d with
  | zero => intro u _; exact ⟨by rw [pm_rw_0]; decide, Int.le_refl _⟩
  | succ d ih =>
    intro u hu
    have a : 0 ≤ pm_sum (fun w => if 11 - (w : Int) ≤ n - d then pm_rw n d (w + 1) else 0) u := pm_sum_nn (fun j hj => by
      have := ih (j + 1) (by omega)
      split <;> omega)
    have b : pm_sum (fun w => if 11 - (w : Int) ≤ n - d then pm_rw n d (w + 1) else 0) u ≤ u * pm_p d := pm_sum_le (fun j hj => by
      have := ih (j + 1) (by omega)
      have p := pm_p_pos d
      split <;> omega)
    have c : (u : Int) * pm_p d ≤ 11 * pm_p d := Int.mul_le_mul_of_nonneg_right (by omega) (by have := pm_p_pos d; omega)
    refine ⟨a, ?_⟩
    show pm_sum _ u ≤ 11 * pm_p d
    omega
theorem pm_p_le {d : Nat} (h : d ≤ 10) : pm_p d ≤ 25937424601 := by
  have : ∀ k : Nat, k < 11 → pm_p k ≤ 25937424601 := by decide +kernel
  exact this d (by omega)
theorem pm_rw_le {n : Int} {d u : Nat} (hd : d ≤ 10) (hu : u ≤ 11) : 0 ≤ pm_rw n d u ∧ pm_rw n d u ≤ 25937424601 := by
  have a := pm_rw_b n d u hu
  have b := pm_p_le hd
  omega
theorem pm_rw_z {n : Int} {d u : Nat} (h : n - d < 12 - (u : Int)) : pm_rw n (d + 1) u = 0 := pm_sum_z (fun j hj => by
  rw [if_neg (by omega)])
/-- what the rows hold -/
def pm_RJ (s : pm_H) (n m j : Int) : Prop := ∀ j' v' : Int, j < j' → j' ≤ m + 1 → 1 ≤ v' → v' ≤ 11 → s 49 0 (12 * j' + v') = pm_rw n (m + 1 - j').toNat (12 - v').toNat
def pm_RK (s : pm_H) (n m j v : Int) : Prop := ∀ v' : Int, v < v' → v' ≤ 11 → s 49 0 (12 * j + v') = pm_rw n (m + 1 - j).toNat (12 - v').toNat
theorem pm_row1 {s s' : pm_H} {m v : Int} (W : ∀ q : Int, 0 ≤ q → q < v → s 49 0 (12 * (m + 1) + q) = 1) (e : s' = pm_up s 49 0 (12 * (m + 1) + v) 1) {q : Int} (a : 0 ≤ q) (b : q < v + 1) : s' 49 0 (12 * (m + 1) + q) = 1 := by
  by_cases z : q = v
  · subst z
    exact pm_at e
  · rw [pm_nei e (by omega)]
    exact W q a (by omega)
theorem pm_RJ_0 {s : pm_H} {n m : Int} (W : ∀ q : Int, 0 ≤ q → q < 12 → s 49 0 (12 * (m + 1) + q) = 1) : pm_RJ s n m m := fun j v a b c d => by
  have e : j = m + 1 := by omega
  subst e
  rw [W v (by omega) (by omega), show (m + 1 - (m + 1)).toNat = 0 by omega]
  rfl
theorem pm_RJ_c {s s' : pm_H} {n m j : Int} (W : pm_RJ s n m j) (e : ∀ i : Int, s' 49 0 i = s 49 0 i) : pm_RJ s' n m j := fun j' v' a b c d => by
  rw [e]
  exact W j' v' a b c d
theorem pm_RJ_up {s s' : pm_H} {n m j v x : Int} (W : pm_RJ s n m j) (e : s' = pm_up s 49 0 (12 * j + v) x) (hv : v ≤ 11) : pm_RJ s' n m j := fun j' v' a b c d => by
  rw [pm_nei e (by omega)]
  exact W j' v' a b c d
theorem pm_RK_s {s s' : pm_H} {n m j v x : Int} (W : pm_RK s n m j v) (e : s' = pm_up s 49 0 (12 * j + v) x) (hx : x = pm_rw n (m + 1 - j).toNat (12 - v).toNat) (_ : v ≤ 11) : pm_RK s' n m j (v + -1) := fun v' a b => by
  by_cases z : v' = v
  · subst z
    rw [pm_at e]
    exact hx
  · rw [pm_nei e (by omega)]
    exact W v' (by omega) b
theorem pm_RJ_n {s : pm_H} {n m j v : Int} (W : pm_RJ s n m j) (K : pm_RK s n m j v) (hv : v ≤ 0) : pm_RJ s n m (j + -1) := fun j' v' a b c d => by
  by_cases z : j' = j
  · subst z
    exact K v' (by omega) d
  · exact W j' v' (by omega) b c d
theorem pm_rw_st {s : pm_H} {n m j v one two : Int} (W : pm_RJ s n m j) (K : pm_RK s n m j v) (h1 : (v > n - m + j ∧ one = 0) ∨ (¬ v > n - m + j ∧ one = s 49 0 (12 * (j + 1) + v))) (h2 : (v ≥ 11 ∧ two = 0) ∨ (¬ v ≥ 11 ∧ two = s 49 0 (12 * j + v + 1))) (hj : 1 ≤ j) (hm : j ≤ m) (hv : 1 ≤ v ∧ v ≤ 11) : one + two = pm_rw n (m + 1 - j).toNat (12 - v).toNat := by
  have e1 : (m + 1 - j).toNat = (m - j).toNat + 1 := by omega
  have e2 : (12 - v).toNat = (11 - v).toNat + 1 := by omega
  rw [e1, e2, pm_rw_s]
  have t : two = pm_rw n ((m - j).toNat + 1) (11 - v).toNat := by
    rcases h2 with ⟨a, b⟩ | ⟨a, b⟩
    · rw [show (11 - v).toNat = 0 by omega, pm_rw_00]
      exact b
    · have k := K (v + 1) (by omega) (by omega)
      rw [show 12 * j + (v + 1) = 12 * j + v + 1 by omega, e1, show (12 - (v + 1)).toNat = (11 - v).toNat by omega] at k
      rw [b, k]
  rcases h1 with ⟨a, b⟩ | ⟨a, b⟩
  · rw [if_neg (by omega), t, b]
    omega
  · have w := W (j + 1) v (by omega) (by omega) (by omega) (by omega)
    rw [show m + 1 - (j + 1) = m - j by omega, e2] at w
    rw [if_pos (by omega), t, b, w]
    omega
theorem pm_rw_v {n m c v l : Int} (h0 : 0 ≤ l) (h : l < pm_rw n (m + 1 - c).toNat (12 - v).toNat) (hc : c ≤ m) (hv : 1 ≤ v ∧ v ≤ 11) : v ≤ n - (m - c) := by
  by_cases z : v ≤ n - (m - c)
  · exact z
  · rw [show (m + 1 - c).toNat = (m - c).toNat + 1 by omega, pm_rw_z (by omega)] at h
    omega
theorem pm_rw_dn {n m c v l w : Int} (h : l < pm_rw n (m + 1 - c).toNat (12 - v).toNat) (hw : w = pm_rw n (m - c).toNat (12 - v).toNat) (hl : 0 ≤ l - w) (hc : c ≤ m) (hv : 1 ≤ v ∧ v ≤ 11 ∧ v ≤ n - (m - c)) : v + 1 ≤ 11 ∧ l - w < pm_rw n (m + 1 - c).toNat (12 - (v + 1)).toNat := by
  have e1 : (m + 1 - c).toNat = (m - c).toNat + 1 := by omega
  have e2 : (12 - v).toNat = (11 - v).toNat + 1 := by omega
  rw [e1, e2, pm_rw_s, if_pos (by omega), ← e2, ← hw] at h
  have e3 : (12 - (v + 1)).toNat = (11 - v).toNat := by omega
  rw [e1, e3]
  refine ⟨?_, by omega⟩
  by_cases z : v + 1 ≤ 11
  · exact z
  · rw [show (11 - v).toNat = 0 by omega, pm_rw_00] at h
    omega

def pre_X11_findRisinge (as : List pm_V) (n : Nat) (σ : pm_H) : Prop := ∃ m1 : Int, as = [.inr (.inr (40, 0)), .inl m1] ∧ n = 122 ∧ pm_Rng σ ∧ ((0 ≤ m1 ∧ m1 ≤ σ 40 0 1) ∧ pm_J2 σ)
def po_X11_findRisinge (as : List pm_V) (_ : Nat) (σ : pm_H) (r : Option pm_V) (τ : pm_H) : Prop := ∀ m1 : Int, as = [.inr (.inr (40, 0)), .inl m1] → r = none ∧ pm_Rng τ ∧ pm_Fr [(49, none)] σ τ ∧ (pm_RJ τ (σ 40 0 1) m1 0)
set_option maxRecDepth 20000 in
set_option maxHeartbeats 4000000 in
theorem ct_X11_findRisinge : pm_Ct yX11_findRising cX11_findRising 6 none 0 0 pre_X11_findRisinge po_X11_findRisinge := pm_sound (ini := false) (by decide +kernel) pk_X11_findRising (fun h => absurd h (by decide)) (by
  rintro as n s0 ⟨m1, rfl, rfl, R0, hpre⟩
  refine ⟨by decide, Nat.le_of_ble_eq_true rfl, fun G hG => ?_⟩
  have hG : pm_Rules (RX11, 0, 122, cX11_findRising, -1, (fun _ => 0), false, none, po_X11_findRisinge [.inr (.inr (40, 0)), .inl m1] 122 s0) G := hG
  show G 0 [some (.inr (.inr (40, 0))), some (.inl m1), none, none, none, none] [] 122 s0
  have B0 := pb_40_0 R0
  have B1 := pb_40_1 R0
  have B2 := pb_40_2 R0
  have B3 := pb_40_3 R0
  have J2 := hpre.2
  have HP := hpre.1
  have JK := J2.1
  have JW := J2.2
  refine px_iconst hG dX11_findRising_0 ?_
  refine px_istore_n hG dX11_findRising_1 (Nat.le_of_ble_eq_true rfl) (L2 := [some (.inr (.inr (40, 0))), some (.inl m1), some (.inl 0), none, none, none]) rfl ?_
  have L2 : ∀ (N : Nat) (v2_1 : Int) (s2 : pm_H), pm_Rng s2 → pm_Fr [(49, none)] s0 s2 → ((0 ≤ v2_1 ∧ v2_1 ≤ 10000) ∧ (∀ q : Int, 0 ≤ q → q < v2_1 → s2 49 0 (12 * (m1 + 1) + q) = 1)) → (10001 - v2_1).toNat < N → G 2 [some (.inr (.inr (40, 0))), some (.inl m1), some (.inl v2_1), none, none, none] [] 122 s2 := by
    intro N
    induction N with
    | zero => intro v2_1 s2 R3 F4 inv6 hm7; exact absurd hm7 (Nat.not_lt_zero _)
    | succ N ih5 =>
      intro v2_1 s2 R3 F4 inv6 hm7
      have jj8 := F4 40 0 0 rfl
      have jj9 := F4 40 0 1 rfl
      have jj10 := F4 40 0 2 rfl
      have jj11 := F4 40 0 3 rfl
      have W := inv6.2
      refine px_iload_n hG dX11_findRising_2 rfl ?_
      refine px_bipush hG dX11_findRising_3 (by decide) ?_
      have J28_13 : ((v2_1 ≥ 12)) → G 28 [some (.inr (.inr (40, 0))), some (.inl m1), none, none, none, none] [] 122 s2 := by
        intro inv14
        refine px_iload_n hG dX11_findRising_28 rfl ?_
        refine px_istore_n hG dX11_findRising_29 (Nat.le_of_ble_eq_true rfl) (L2 := [some (.inr (.inr (40, 0))), some (.inl m1), some (.inl m1), none, none, none]) rfl ?_
        have L30 : ∀ (N : Nat) (v2_15 : Int) (s16 : pm_H), pm_Rng s16 → pm_Fr [(49, none)] s0 s16 → ((-10000 ≤ v2_15 ∧ v2_15 ≤ m1) ∧ (pm_RJ s16 (s0 40 0 1) m1 v2_15 ∧ 0 ≤ v2_15)) → (v2_15 + 10001).toNat < N → G 30 [some (.inr (.inr (40, 0))), some (.inl m1), some (.inl v2_15), none, none, none] [] 122 s16 := by
          intro N
          induction N with
          | zero => intro v2_15 s16 R17 F18 inv20 hm21; exact absurd hm21 (Nat.not_lt_zero _)
          | succ N ih19 =>
            intro v2_15 s16 R17 F18 inv20 hm21
            have jj22 := F18 40 0 0 rfl
            have jj23 := F18 40 0 1 rfl
            have jj24 := F18 40 0 2 rfl
            have jj25 := F18 40 0 3 rfl
            have U1 := (inv20.2).1
            have U3 := (inv20.2).2
            refine px_iload_n hG dX11_findRising_30 rfl ?_
            refine px_iconst hG dX11_findRising_31 ?_
            refine px_ic_lt hG dX11_findRising_32 (tgt := 123) (by decide) ⟨by omega, by omega⟩ ⟨by omega, by omega⟩ (fun c26 => ?_) (fun c26 => ?_)
            · have RP : pm_RJ s16 (s0 40 0 1) m1 0 := by
                have q : v2_15 = 0 := by omega
                rw [q] at U1
                exact U1
              have jj27 := F18 40 0 0 rfl
              have jj28 := F18 40 0 1 rfl
              have jj29 := F18 40 0 2 rfl
              have jj30 := F18 40 0 3 rfl
              exact px_vret (st := []) hG dX11_findRising_123 rfl rfl (fun m1_1 ee => by cases ee; exact ⟨rfl, R17, F18, RP⟩)
            · refine px_bipush hG dX11_findRising_35 (by decide) ?_
              refine px_istore_n hG dX11_findRising_37 (Nat.le_of_ble_eq_true rfl) (L2 := [some (.inr (.inr (40, 0))), some (.inl m1), some (.inl v2_15), some (.inl 11), none, none]) rfl ?_
              have L38 : ∀ (N : Nat) (v3_31 : Int) (s32 : pm_H), pm_Rng s32 → pm_Fr [(49, none)] s0 s32 → ((-10000 ≤ v3_31 ∧ v3_31 ≤ 11) ∧ (pm_RJ s32 (s0 40 0 1) m1 v2_15 ∧ pm_RK s32 (s0 40 0 1) m1 v2_15 v3_31 ∧ 0 ≤ v3_31)) → (v3_31 + 10001).toNat < N → G 38 [some (.inr (.inr (40, 0))), some (.inl m1), some (.inl v2_15), some (.inl v3_31), none, none] [] 122 s32 := by
                intro N
                induction N with
                | zero => intro v3_31 s32 R33 F34 inv36 hm37; exact absurd hm37 (Nat.not_lt_zero _)
                | succ N ih35 =>
                  intro v3_31 s32 R33 F34 inv36 hm37
                  have jj38 := F34 40 0 0 rfl
                  have jj39 := F34 40 0 1 rfl
                  have jj40 := F34 40 0 2 rfl
                  have jj41 := F34 40 0 3 rfl
                  have U1 := (inv36.2).1
                  have U2 := (inv36.2).2.1
                  have U3 := (inv36.2).2.2
                  refine px_iload_n hG dX11_findRising_38 rfl ?_
                  refine px_iconst hG dX11_findRising_39 ?_
                  refine px_ic_lt hG dX11_findRising_40 (tgt := 117) (by decide) ⟨by omega, by omega⟩ ⟨by omega, by omega⟩ (fun c42 => ?_) (fun c42 => ?_)
                  · refine px_iinc hG dX11_findRising_117 (Nat.le_of_ble_eq_true rfl) rfl (L2 := [some (.inr (.inr (40, 0))), some (.inl m1), some (.inl (v2_15 + -1)), some (.inl v3_31), none, none]) rfl ?_
                    refine px_goto hG dX11_findRising_120 (tgt := 30) (by decide) ?_
                    refine px_weak hG (L2 := [some (.inr (.inr (40, 0))), some (.inl m1), some (.inl (v2_15 + -1)), none, none, none]) ⟨Or.inr rfl, Or.inr rfl, Or.inr rfl, Or.inl rfl, Or.inr rfl, Or.inr rfl, trivial⟩ ?_
                    exact ih19 (v2_15 + -1) s32 R33 F34 (⟨by omega, ⟨pm_RJ_n U1 U2 (by omega), by omega⟩⟩) (by omega)
                  · refine px_iload_n hG dX11_findRising_43 rfl ?_
                    refine px_aload_n hG dX11_findRising_44 rfl ?_
                    refine gi_40_1 hG dX11_findRising_45 fl_X11_7 R33 (fun x43 ex43 lx43 ux43 => ?_)
                    have ex43 : s0 40 0 1 = x43 := (F34 40 0 1 rfl).symm.trans ex43
                    refine px_iload_n hG dX11_findRising_48 rfl ?_
                    refine px_isub hG dX11_findRising_49 ?_
                    refine px_iload_n hG dX11_findRising_50 rfl ?_
                    refine px_iadd hG dX11_findRising_51 ?_
                    have J72_46 : ∀ (j45 : Int), ((v3_31 > (s0 40 0 1) - m1 + v2_15 ∧ j45 = 0) ∨ (¬ v3_31 > (s0 40 0 1) - m1 + v2_15 ∧ j45 = s32 49 0 (12 * (v2_15 + 1) + v3_31))) → G 72 [some (.inr (.inr (40, 0))), some (.inl m1), some (.inl v2_15), some (.inl v3_31), none, none] [.inr (.inl j45)] 122 s32 := by
                      intro j45 inv47
                      have O1 := inv47
                      refine px_lstore hG dX11_findRising_72 (Nat.le_of_ble_eq_true rfl) (L2 := [some (.inr (.inr (40, 0))), some (.inl m1), some (.inl v2_15), some (.inl v3_31), some (.inr (.inl j45)), none]) rfl ?_
                      refine px_aload_n hG dX11_findRising_74 rfl ?_
                      refine gr_40_12 hG dX11_findRising_75 fl_X11_39 R33 ?_
                      refine px_bipush hG dX11_findRising_78 (by decide) ?_
                      refine px_iload_n hG dX11_findRising_80 rfl ?_
                      refine px_imul hG dX11_findRising_81 ?_
                      refine px_iload_n hG dX11_findRising_82 rfl ?_
                      refine px_iadd hG dX11_findRising_83 ?_
                      refine px_lload hG dX11_findRising_84 rfl ?_
                      refine px_iload_n hG dX11_findRising_86 rfl ?_
                      refine px_bipush hG dX11_findRising_87 (by decide) ?_
                      have J109_50 : ∀ (j49 : Int), ((v3_31 ≥ 11 ∧ j49 = 0) ∨ (¬ v3_31 ≥ 11 ∧ j49 = s32 49 0 (12 * v2_15 + v3_31 + 1))) → G 109 [some (.inr (.inr (40, 0))), some (.inl m1), some (.inl v2_15), some (.inl v3_31), none, none] [.inr (.inl j49), .inr (.inl j45), .inl ((12 * v2_15) + v3_31), .inr (.inr (49, 0))] 122 s32 := by
                        intro j49 inv51
                        have O2 := inv51
                        refine px_ladd hG dX11_findRising_109 ?_
                        refine as_49 hG dX11_findRising_110 R33 (by omega) (fun s52 qs52 Rs52 => ?_)
                        have Fs52 := pm_Fr_up (F34) qs52 (M := [(49, none)]) rfl
                        have jj53 := pm_nec qs52 (c' := 40) (r' := 0) (i' := 0) (by decide)
                        have jj54 := pm_nec qs52 (c' := 40) (r' := 0) (i' := 1) (by decide)
                        have jj55 := pm_nec qs52 (c' := 40) (r' := 0) (i' := 2) (by decide)
                        have jj56 := pm_nec qs52 (c' := 40) (r' := 0) (i' := 3) (by decide)
                        have E := qs52
                        have SV := pm_rw_st U1 U2 O1 O2 (by omega) (by omega) (by omega)
                        refine px_iinc hG dX11_findRising_111 (Nat.le_of_ble_eq_true rfl) rfl (L2 := [some (.inr (.inr (40, 0))), some (.inl m1), some (.inl v2_15), some (.inl (v3_31 + -1)), none, none]) rfl ?_
                        refine px_goto hG dX11_findRising_114 (tgt := 38) (by decide) ?_
                        exact ih35 (v3_31 + -1) s52 Rs52 Fs52 (⟨by omega, ⟨pm_RJ_up U1 E (by omega), pm_RK_s U2 E SV (by omega), by omega⟩⟩) (by omega)
                      refine px_ic_ge hG dX11_findRising_89 (tgt := 108) (by decide) ⟨by omega, by omega⟩ ⟨by omega, by omega⟩ (fun c48 => ?_) (fun c48 => ?_)
                      · refine px_lconst hG dX11_findRising_108 ?_
                        show G 109 [some (.inr (.inr (40, 0))), some (.inl m1), some (.inl v2_15), some (.inl v3_31), some (.inr (.inl j45)), none] [.inr (.inl 0), .inr (.inl j45), .inl ((12 * v2_15) + v3_31), .inr (.inr (49, 0))] 122 s32
                        refine px_weak hG (L2 := [some (.inr (.inr (40, 0))), some (.inl m1), some (.inl v2_15), some (.inl v3_31), none, none]) ⟨Or.inr rfl, Or.inr rfl, Or.inr rfl, Or.inr rfl, Or.inl rfl, Or.inr rfl, trivial⟩ ?_
                        exact J109_50 0 (by omega)
                      · refine px_aload_n hG dX11_findRising_92 rfl ?_
                        refine gr_40_12 hG dX11_findRising_93 fl_X11_39 R33 ?_
                        refine px_bipush hG dX11_findRising_96 (by decide) ?_
                        refine px_iload_n hG dX11_findRising_98 rfl ?_
                        refine px_imul hG dX11_findRising_99 ?_
                        refine px_iload_n hG dX11_findRising_100 rfl ?_
                        refine px_iadd hG dX11_findRising_101 ?_
                        refine px_iconst hG dX11_findRising_102 ?_
                        refine px_iadd hG dX11_findRising_103 ?_
                        refine al_49 hG dX11_findRising_104 (by omega) (fun z57 ez57 => ?_)
                        refine px_goto hG dX11_findRising_105 (tgt := 109) (by decide) ?_
                        refine px_weak hG (L2 := [some (.inr (.inr (40, 0))), some (.inl m1), some (.inl v2_15), some (.inl v3_31), none, none]) ⟨Or.inr rfl, Or.inr rfl, Or.inr rfl, Or.inr rfl, Or.inl rfl, Or.inr rfl, trivial⟩ ?_
                        exact J109_50 z57 (by omega)
                    refine px_ic_gt hG dX11_findRising_52 (tgt := 71) (by decide) ⟨by omega, by omega⟩ ⟨by omega, by omega⟩ (fun c44 => ?_) (fun c44 => ?_)
                    · refine px_lconst hG dX11_findRising_71 ?_
                      show G 72 [some (.inr (.inr (40, 0))), some (.inl m1), some (.inl v2_15), some (.inl v3_31), none, none] [.inr (.inl 0)] 122 s32
                      exact J72_46 0 (by omega)
                    · refine px_aload_n hG dX11_findRising_55 rfl ?_
                      refine gr_40_12 hG dX11_findRising_56 fl_X11_39 R33 ?_
                      refine px_bipush hG dX11_findRising_59 (by decide) ?_
                      refine px_iload_n hG dX11_findRising_61 rfl ?_
                      refine px_iconst hG dX11_findRising_62 ?_
                      refine px_iadd hG dX11_findRising_63 ?_
                      refine px_imul hG dX11_findRising_64 ?_
                      refine px_iload_n hG dX11_findRising_65 rfl ?_
                      refine px_iadd hG dX11_findRising_66 ?_
                      refine al_49 hG dX11_findRising_67 (by omega) (fun z58 ez58 => ?_)
                      refine px_goto hG dX11_findRising_68 (tgt := 72) (by decide) ?_
                      exact J72_46 z58 (by omega)
              exact L38 _ 11 s16 R17 F18 (⟨by omega, ⟨U1, fun w a b => by omega, by omega⟩⟩) (Nat.lt_succ_self _)
        exact L30 _ m1 s2 R3 F4 (⟨by omega, ⟨pm_RJ_0 (fun q a b => W q a (by omega)), by omega⟩⟩) (Nat.lt_succ_self _)
      refine px_ic_ge hG dX11_findRising_5 (tgt := 28) (by decide) ⟨by omega, by omega⟩ ⟨by omega, by omega⟩ (fun c12 => ?_) (fun c12 => ?_)
      · refine px_weak hG (L2 := [some (.inr (.inr (40, 0))), some (.inl m1), none, none, none, none]) ⟨Or.inr rfl, Or.inr rfl, Or.inl rfl, Or.inr rfl, Or.inr rfl, Or.inr rfl, trivial⟩ ?_
        exact J28_13  (by omega)
      · refine px_aload_n hG dX11_findRising_8 rfl ?_
        refine gr_40_12 hG dX11_findRising_9 fl_X11_39 R3 ?_
        refine px_bipush hG dX11_findRising_12 (by decide) ?_
        refine px_iload_n hG dX11_findRising_14 rfl ?_
        refine px_iconst hG dX11_findRising_15 ?_
        refine px_iadd hG dX11_findRising_16 ?_
        refine px_imul hG dX11_findRising_17 ?_
        refine px_iload_n hG dX11_findRising_18 rfl ?_
        refine px_iadd hG dX11_findRising_19 ?_
        refine px_lconst hG dX11_findRising_20 ?_
        show G 21 [some (.inr (.inr (40, 0))), some (.inl m1), some (.inl v2_1), none, none, none] [.inr (.inl 1), .inl ((12 * (m1 + 1)) + v2_1), .inr (.inr (49, 0))] 122 s2
        refine as_49 hG dX11_findRising_21 R3 (by omega) (fun s59 qs59 Rs59 => ?_)
        have Fs59 := pm_Fr_up (F4) qs59 (M := [(49, none)]) rfl
        have jj60 := pm_nec qs59 (c' := 40) (r' := 0) (i' := 0) (by decide)
        have jj61 := pm_nec qs59 (c' := 40) (r' := 0) (i' := 1) (by decide)
        have jj62 := pm_nec qs59 (c' := 40) (r' := 0) (i' := 2) (by decide)
        have jj63 := pm_nec qs59 (c' := 40) (r' := 0) (i' := 3) (by decide)
        have E := qs59
        refine px_iinc hG dX11_findRising_22 (Nat.le_of_ble_eq_true rfl) rfl (L2 := [some (.inr (.inr (40, 0))), some (.inl m1), some (.inl (v2_1 + 1)), none, none, none]) rfl ?_
        refine px_goto hG dX11_findRising_25 (tgt := 2) (by decide) ?_
        exact ih5 (v2_1 + 1) s59 Rs59 Fs59 (⟨by omega, fun q a b => pm_row1 W E a b⟩) (by omega)
  exact L2 _ 0 s0 R0 pm_Fr_rf (⟨by omega, fun q a b => by omega⟩) (Nat.lt_succ_self _))
def pre_X11_risingsOfe (as : List pm_V) (n : Nat) (σ : pm_H) : Prop := ∃ m1 : Int, as = [.inr (.inr (40, 0)), .inl m1] ∧ n = 122 ∧ pm_Rng σ ∧ ((0 ≤ m1 ∧ m1 ≤ σ 40 0 1) ∧ pm_J2 σ)
def po_X11_risingsOfe (as : List pm_V) (_ : Nat) (σ : pm_H) (r : Option pm_V) (τ : pm_H) : Prop := ∀ m1 : Int, as = [.inr (.inr (40, 0)), .inl m1] → ∃ v : Int, r = some (.inr (.inl v)) ∧ pm_Rng τ ∧ pm_Fr [(49, none)] σ τ ∧ (v = pm_rw (σ 40 0 1) m1.toNat 11)
set_option maxRecDepth 20000 in
set_option maxHeartbeats 4000000 in
theorem ct_X11_risingsOfe : pm_Ct yX11_risingsOf cX11_risingsOf 2 (some .long) 1 0 pre_X11_risingsOfe po_X11_risingsOfe := pm_sound (ini := false) (by decide +kernel) pk_X11_risingsOf (fun h => absurd h (by decide)) (by
  rintro as n s0 ⟨m1, rfl, rfl, R0, hpre⟩
  refine ⟨by decide, Nat.le_of_ble_eq_true rfl, fun G hG => ?_⟩
  have hG : pm_Rules (RX11, 1, 122, cX11_risingsOf, -1, (fun _ => 0), false, (some .long), po_X11_risingsOfe [.inr (.inr (40, 0)), .inl m1] 122 s0) G := hG
  show G 0 [some (.inr (.inr (40, 0))), some (.inl m1)] [] 122 s0
  have B0 := pb_40_0 R0
  have B1 := pb_40_1 R0
  have B2 := pb_40_2 R0
  have B3 := pb_40_3 R0
  have J2 := hpre.2
  have HP := hpre.1
  have JK := J2.1
  have JW := J2.2
  refine px_aload_n hG dX11_risingsOf_0 rfl ?_
  refine px_iload_n hG dX11_risingsOf_1 rfl ?_
  refine jv1 hG dX11_risingsOf_2 ct_X11_findRisinge lk_X11_183 ⟨rfl, rfl⟩ (by decide) ⟨Nat.le_of_ble_eq_true rfl, Nat.le_of_ble_eq_true rfl, Nat.le_of_ble_eq_true rfl⟩ (Nat.le_of_ble_eq_true rfl) ⟨m1, rfl, rfl, R0, ⟨by omega, J2⟩⟩ (fun r1 t3 pr1 => ?_)
  obtain ⟨rfl, Rt3, Ft3, br1⟩ := pr1 _ rfl
  have Ff5 := pm_Fr_mono Ft3 (M := [(49, none)]) rfl
  have jj6 := Ft3 40 0 0 rfl
  have jj7 := Ft3 40 0 1 rfl
  have jj8 := Ft3 40 0 2 rfl
  have jj9 := Ft3 40 0 3 rfl
  show G 5 [some (.inr (.inr (40, 0))), some (.inl m1)] [] 122 t3
  have W := br1 1 1 (by omega) (by omega) (by omega) (by omega)
  refine px_aload_n hG dX11_risingsOf_5 rfl ?_
  refine gr_40_12 hG dX11_risingsOf_6 fl_X11_39 Rt3 ?_
  refine px_bipush hG dX11_risingsOf_9 (by decide) ?_
  refine al_49 hG dX11_risingsOf_11 (by omega) (fun z10 ez10 => ?_)
  have jj11 := Ff5 40 0 0 rfl
  have jj12 := Ff5 40 0 1 rfl
  have jj13 := Ff5 40 0 2 rfl
  have jj14 := Ff5 40 0 3 rfl
  exact px_lret (st := []) hG dX11_risingsOf_12 rfl rfl (fun m1_1 ee => by cases ee; exact ⟨_, rfl, Rt3, Ff5, by rw [show (12 : Int) * 1 + 1 = 13 by omega, show m1 + 1 - 1 = m1 by omega, show ((12 : Int) - 1).toNat = 11 from rfl] at W; rw [← W]; omega⟩))
def pre_X11_riseUnrank (as : List pm_V) (n : Nat) (σ : pm_H) : Prop := ∃ aa rr : Int, as = [.inr (.inr (40, 0)), .inl aa, .inr (.inl rr)] ∧ n = 122 ∧ pm_Rng σ ∧ ((pm_in aa ∧ pm_inl rr) ∧ pm_J2 σ)
def po_X11_riseUnrank (as : List pm_V) (_ : Nat) (σ : pm_H) (r : Option pm_V) (τ : pm_H) : Prop := ∀ aa rr : Int, as = [.inr (.inr (40, 0)), .inl aa, .inr (.inl rr)] → ∃ v : Int, r = some (.inl v) ∧ pm_Rng τ ∧ pm_Fr [(40, some 3), (41, none), (42, none), (49, none)] σ τ ∧ (pm_J2 τ)
set_option maxRecDepth 20000 in
set_option maxHeartbeats 4000000 in
theorem ct_X11_riseUnrank : pm_Ct yX11_riseUnrank cX11_riseUnrank 8 (some .int) 2 0 pre_X11_riseUnrank po_X11_riseUnrank := pm_sound (ini := false) (by decide +kernel) pk_X11_riseUnrank (fun h => absurd h (by decide)) (by
  rintro as n s0 ⟨aa, rr, rfl, rfl, R0, hpre⟩
  refine ⟨by decide, Nat.le_of_ble_eq_true rfl, fun G hG => ?_⟩
  have hG : pm_Rules (RX11, 2, 122, cX11_riseUnrank, -1, (fun _ => 0), false, (some .int), po_X11_riseUnrank [.inr (.inr (40, 0)), .inl aa, .inr (.inl rr)] 122 s0) G := hG
  show G 0 [some (.inr (.inr (40, 0))), some (.inl aa), some (.inr (.inl rr)), none, none, none, none, none] [] 122 s0
  have B0 := pb_40_0 R0
  have B1 := pb_40_1 R0
  have B2 := pb_40_2 R0
  have B3 := pb_40_3 R0
  have J2 := hpre.2
  have HP := hpre.1
  have JK := J2.1
  have JW := J2.2
  refine px_iload_n hG dX11_riseUnrank_0 rfl ?_
  refine px_i2l hG dX11_riseUnrank_1 ⟨by omega, by omega⟩ ?_
  refine px_lconst hG dX11_riseUnrank_2 ?_
  show G 3 [some (.inr (.inr (40, 0))), some (.inl aa), some (.inr (.inl rr)), none, none, none, none, none] [.inr (.inl 0), .inr (.inl aa)] 122 s0
  refine px_aload_n hG dX11_riseUnrank_3 rfl ?_
  refine gi_40_1 hG dX11_riseUnrank_4 fl_X11_7 R0 (fun x1 ex1 lx1 ux1 => ?_)
  refine px_i2l hG dX11_riseUnrank_7 ⟨by omega, by omega⟩ ?_
  refine js3 hG dX11_riseUnrank_8 ct_X11_in lk_X11_96 ⟨Nat.le_of_ble_eq_true rfl, Nat.le_of_ble_eq_true rfl, Nat.le_of_ble_eq_true rfl⟩ (Nat.le_of_ble_eq_true rfl) ⟨aa, 0, x1, rfl, rfl, R0, by omega⟩ (fun r2 t3 pr2 => ?_)
  obtain ⟨x4, rfl, rfl, br2⟩ := pr2 _ _ _ rfl
  show G 11 [some (.inr (.inr (40, 0))), some (.inl aa), some (.inr (.inl rr)), none, none, none, none, none] [.inl x4] 122 s0
  refine px_if_eq hG dX11_riseUnrank_11 (tgt := 30) (by decide) ⟨by omega, by omega⟩ (fun c5 => ?_) (fun c5 => ?_)
  · refine px_iconst hG dX11_riseUnrank_30 ?_
    exact px_iret (st := []) hG dX11_riseUnrank_31 rfl rfl (fun aa_1 rr_1 ee => by cases ee; exact ⟨_, rfl, R0, pm_Fr_rf, J2⟩)
  · refine px_lload_n hG dX11_riseUnrank_14 rfl ?_
    refine px_lconst hG dX11_riseUnrank_15 ?_
    show G 16 [some (.inr (.inr (40, 0))), some (.inl aa), some (.inr (.inl rr)), none, none, none, none, none] [.inr (.inl 0), .inr (.inl rr)] 122 s0
    refine px_lcmp hG dX11_riseUnrank_16 ⟨by omega, by omega⟩ ⟨by omega, by omega⟩ (fun x6 bx6 => ?_)
    refine px_if_lt hG dX11_riseUnrank_17 (tgt := 30) (by decide) ⟨by omega, by omega⟩ (fun c7 => ?_) (fun c7 => ?_)
    · refine px_iconst hG dX11_riseUnrank_30 ?_
      exact px_iret (st := []) hG dX11_riseUnrank_31 rfl rfl (fun aa_1 rr_1 ee => by cases ee; exact ⟨_, rfl, R0, pm_Fr_rf, J2⟩)
    · refine px_lload_n hG dX11_riseUnrank_20 rfl ?_
      refine px_aload_n hG dX11_riseUnrank_21 rfl ?_
      refine px_iload_n hG dX11_riseUnrank_22 rfl ?_
      refine jv1 hG dX11_riseUnrank_23 ct_X11_risingsOfe lk_X11_186 ⟨rfl, rfl⟩ (by decide) ⟨Nat.le_of_ble_eq_true rfl, Nat.le_of_ble_eq_true rfl, Nat.le_of_ble_eq_true rfl⟩ (Nat.le_of_ble_eq_true rfl) ⟨aa, rfl, rfl, R0, ⟨by omega, J2⟩⟩ (fun r8 t10 pr8 => ?_)
      obtain ⟨z11, rfl, Rt10, Ft10, br8⟩ := pr8 _ rfl
      have Ff12 := pm_Fr_mono Ft10 (M := [(40, some 3), (41, none), (42, none), (49, none)]) rfl
      have jj13 := Ft10 40 0 0 rfl
      have jj14 := Ft10 40 0 1 rfl
      have jj15 := Ft10 40 0 2 rfl
      have jj16 := Ft10 40 0 3 rfl
      have Jt10 := pm_J2_fr Ft10 rfl J2
      have k17 : t10 40 0 1 = x1 := (Ft10 40 0 1 rfl).trans ex1
      show G 26 [some (.inr (.inr (40, 0))), some (.inl aa), some (.inr (.inl rr)), none, none, none, none, none] [.inr (.inl z11), .inr (.inl rr)] 122 t10
      have W1 := br8
      have UF := pm_rw_le (n := s0 40 0 1) (d := aa.toNat) (u := 11) (by omega) (by omega)
      refine px_lcmp hG dX11_riseUnrank_26 ⟨by omega, by omega⟩ ⟨by omega, by omega⟩ (fun x18 bx18 => ?_)
      refine px_if_lt hG dX11_riseUnrank_27 (tgt := 32) (by decide) ⟨by omega, by omega⟩ (fun c19 => ?_) (fun c19 => ?_)
      · refine px_aload_n hG dX11_riseUnrank_32 rfl ?_
        refine gi_40_0 hG dX11_riseUnrank_33 fl_X11_104 Rt10 (fun x20 ex20 lx20 ux20 => ?_)
        have ex20 : s0 40 0 0 = x20 := (Ff12 40 0 0 rfl).symm.trans ex20
        refine px_if_eq hG dX11_riseUnrank_36 (tgt := 42) (by decide) ⟨by omega, by omega⟩ (fun c21 => ?_) (fun c21 => ?_)
        · refine px_aload_n hG dX11_riseUnrank_42 rfl ?_
          refine px_iload_n hG dX11_riseUnrank_43 rfl ?_
          refine jv1 hG dX11_riseUnrank_44 ct_X11_findRisinge lk_X11_183 ⟨rfl, rfl⟩ (by decide) ⟨Nat.le_of_ble_eq_true rfl, Nat.le_of_ble_eq_true rfl, Nat.le_of_ble_eq_true rfl⟩ (Nat.le_of_ble_eq_true rfl) ⟨aa, rfl, rfl, Rt10, ⟨⟨by omega, by omega⟩, Jt10⟩⟩ (fun r22 t24 pr22 => ?_)
          obtain ⟨rfl, Rt24, Ft24, br22⟩ := pr22 _ rfl
          have Ff26 := pm_Fr_tr Ff12 Ft24 (M := [(40, some 3), (41, none), (42, none), (49, none)]) rfl
          have jj27 := Ft24 40 0 0 rfl
          have jj28 := Ft24 40 0 1 rfl
          have jj29 := Ft24 40 0 2 rfl
          have jj30 := Ft24 40 0 3 rfl
          have Jt24 := pm_J2_fr Ft24 rfl Jt10
          have k31 : t24 40 0 1 = x1 := (Ft24 40 0 1 rfl).trans k17
          show G 47 [some (.inr (.inr (40, 0))), some (.inl aa), some (.inr (.inl rr)), none, none, none, none, none] [] 122 t24
          have RI := br22
          rw [Ff12 40 0 1 rfl] at RI
          refine px_aload_n hG dX11_riseUnrank_47 rfl ?_
          refine px_iconst hG dX11_riseUnrank_48 ?_
          refine pi_40_3 hG dX11_riseUnrank_49 fl_X11_110 Rt24 (by omega) (fun s32 qs32 Rs32 => ?_)
          have Fs32 := pm_Fr_up (Ff26) qs32 (M := [(40, some 3), (41, none), (42, none), (49, none)]) rfl
          have k33 : s32 40 0 1 = x1 := (pm_nei qs32 (by decide)).trans k31
          have k34 : s32 40 0 3 = 0 := pm_at qs32
          have Js32 := pm_J2_k qs32 (by omega) Jt24
          have KP := pm_at qs32
          have NP := Fs32 40 0 1 rfl
          have RI := pm_RJ_c RI (fun i => pm_nec (c' := 49) (r' := 0) (i' := i) qs32 (by decide))
          refine px_lload_n hG dX11_riseUnrank_52 rfl ?_
          refine px_lstore hG dX11_riseUnrank_53 (Nat.le_of_ble_eq_true rfl) (L2 := [some (.inr (.inr (40, 0))), some (.inl aa), some (.inr (.inl rr)), none, some (.inr (.inl rr)), none, none, none]) rfl ?_
          refine px_iconst hG dX11_riseUnrank_55 ?_
          refine px_istore hG dX11_riseUnrank_56 (Nat.le_of_ble_eq_true rfl) (L2 := [some (.inr (.inr (40, 0))), some (.inl aa), some (.inr (.inl rr)), none, some (.inr (.inl rr)), none, some (.inl 1), none]) rfl ?_
          refine px_iconst hG dX11_riseUnrank_58 ?_
          refine px_istore hG dX11_riseUnrank_59 (Nat.le_of_ble_eq_true rfl) (L2 := [some (.inr (.inr (40, 0))), some (.inl aa), some (.inr (.inl rr)), none, some (.inr (.inl rr)), none, some (.inl 1), some (.inl 1)]) rfl ?_
          have L61 : ∀ (N : Nat) (v4_35 : Int) (v6_36 : Int) (v7_37 : Int) (s38 : pm_H), pm_Rng s38 → pm_Fr [(40, some 3), (41, none), (42, none), (49, none)] s0 s38 → s38 40 0 1 = x1 → ((1 ≤ v6_36 ∧ v6_36 ≤ 10000) ∧ (1 ≤ v7_37 ∧ v7_37 ≤ 10000) ∧ (pm_J2 s38 ∧ s38 40 0 3 = v7_37 - 1 ∧ v7_37 ≤ aa + 1 ∧ v6_36 ≤ 11 ∧ 0 ≤ v4_35 ∧ v4_35 < pm_rw (s0 40 0 1) (aa + 1 - v7_37).toNat (12 - v6_36).toNat ∧ pm_RJ s38 (s0 40 0 1) aa 0)) → (10001 - v7_37).toNat < N → G 61 [some (.inr (.inr (40, 0))), some (.inl aa), none, none, some (.inr (.inl v4_35)), none, some (.inl v6_36), some (.inl v7_37)] [] 122 s38 := by
            intro N
            induction N with
            | zero => intro v4_35 v6_36 v7_37 s38 R39 F40 k42 inv43 hm44; exact absurd hm44 (Nat.not_lt_zero _)
            | succ N ih41 =>
              intro v4_35 v6_36 v7_37 s38 R39 F40 k42 inv43 hm44
              have jj45 := F40 40 0 0 rfl
              have jj46 := F40 40 0 1 rfl
              have jj47 := F40 40 0 2 rfl
              have Js38 := (inv43.2.2).1
              have V1 := (inv43.2.2).2.1
              have V2 := (inv43.2.2).2.2.1
              have V3 := (inv43.2.2).2.2.2.1
              have V4 := (inv43.2.2).2.2.2.2.1
              have V5 := (inv43.2.2).2.2.2.2.2.1
              have RI := (inv43.2.2).2.2.2.2.2.2
              obtain ⟨VC, hVC⟩ : ∃ z : Int, z = v7_37 := ⟨_, rfl⟩
              refine px_iload hG dX11_riseUnrank_61 rfl ?_
              refine px_iload_n hG dX11_riseUnrank_63 rfl ?_
              refine px_ic_gt hG dX11_riseUnrank_64 (tgt := 126) (by decide) ⟨by omega, by omega⟩ ⟨by omega, by omega⟩ (fun c48 => ?_) (fun c48 => ?_)
              · refine px_iload_n hG dX11_riseUnrank_126 rfl ?_
                have jj49 := F40 40 0 0 rfl
                have jj50 := F40 40 0 1 rfl
                have jj51 := F40 40 0 2 rfl
                exact px_iret (st := []) hG dX11_riseUnrank_127 rfl rfl (fun aa_1 rr_1 ee => by cases ee; exact ⟨_, rfl, R39, F40, Js38⟩)
              · have L67 : ∀ (N : Nat) (v4_52 : Int) (v6_53 : Int), ((v6_36 ≤ v6_53 ∧ v6_53 ≤ 10000) ∧ (v6_53 ≤ 11 ∧ 0 ≤ v4_52 ∧ v4_52 < pm_rw (s0 40 0 1) (aa + 1 - v7_37).toNat (12 - v6_53).toNat)) → (10001 - v6_53).toNat < N → G 67 [some (.inr (.inr (40, 0))), some (.inl aa), none, none, some (.inr (.inl v4_52)), none, some (.inl v6_53), some (.inl v7_37)] [] 122 s38 := by
                  intro N
                  induction N with
                  | zero => intro v4_52 v6_53 inv55 hm56; exact absurd hm56 (Nat.not_lt_zero _)
                  | succ N ih54 =>
                    intro v4_52 v6_53 inv55 hm56
                    have V3 := (inv55.2).1
                    have V4 := (inv55.2).2.1
                    have V5 := (inv55.2).2.2
                    have U1 := pm_rw_le (n := s0 40 0 1) (d := (aa + 1 - v7_37).toNat) (u := (12 - v6_53).toNat) (by omega) (by omega)
                    have U2 := pm_rw_le (n := s0 40 0 1) (d := (aa - v7_37).toNat) (u := (12 - v6_53).toNat) (by omega) (by omega)
                    have U3 := RI (v7_37 + 1) v6_53 (by omega) (by omega) (by omega) (by omega)
                    rw [show aa + 1 - (v7_37 + 1) = aa - v7_37 by omega] at U3
                    have U4 := pm_rw_v (n := s0 40 0 1) (m := aa) (c := v7_37) (v := v6_53) V4 V5 (by omega) (by omega)
                    have U6 : s38 49 0 (12 * (v7_37 + 1) + v6_53) = pm_rw (s0 40 0 1) (aa - VC).toNat (12 - v6_53).toNat := by rw [hVC]; exact U3
                    refine px_lload hG dX11_riseUnrank_67 rfl ?_
                    refine px_aload_n hG dX11_riseUnrank_69 rfl ?_
                    refine gr_40_12 hG dX11_riseUnrank_70 fl_X11_39 R39 ?_
                    refine px_bipush hG dX11_riseUnrank_73 (by decide) ?_
                    refine px_iload hG dX11_riseUnrank_75 rfl ?_
                    refine px_iconst hG dX11_riseUnrank_77 ?_
                    refine px_iadd hG dX11_riseUnrank_78 ?_
                    refine px_imul hG dX11_riseUnrank_79 ?_
                    refine px_iload hG dX11_riseUnrank_80 rfl ?_
                    refine px_iadd hG dX11_riseUnrank_82 ?_
                    refine al_49 hG dX11_riseUnrank_83 (by omega) (fun z57 ez57 => ?_)
                    have X1 := ez57
                    refine px_lcmp hG dX11_riseUnrank_84 ⟨by omega, by omega⟩ ⟨by omega, by omega⟩ (fun x58 bx58 => ?_)
                    refine px_if_lt hG dX11_riseUnrank_85 (tgt := 114) (by decide) ⟨by omega, by omega⟩ (fun c59 => ?_) (fun c59 => ?_)
                    · refine px_aload_n hG dX11_riseUnrank_114 rfl ?_
                      refine px_iload hG dX11_riseUnrank_115 rfl ?_
                      refine jv1 hG dX11_riseUnrank_117 ct_X11_add lk_X11_113 ⟨rfl, rfl⟩ (by decide) ⟨Nat.le_of_ble_eq_true rfl, Nat.le_of_ble_eq_true rfl, Nat.le_of_ble_eq_true rfl⟩ (Nat.le_of_ble_eq_true rfl) ⟨v6_53, rfl, rfl, R39, ⟨by omega, Js38⟩⟩ (fun r60 t62 pr60 => ?_)
                      obtain ⟨rfl, Rt62, Ft62, br60⟩ := pr60 _ rfl
                      have Ff64 := pm_Fr_tr F40 Ft62 (M := [(40, some 3), (41, none), (42, none), (49, none)]) rfl
                      have jj65 := Ft62 40 0 0 rfl
                      have jj66 := Ft62 40 0 1 rfl
                      have jj67 := Ft62 40 0 2 rfl
                      have Jt62 : pm_J2 t62 := br60.1
                      have k68 : t62 40 0 1 = x1 := (Ft62 40 0 1 rfl).trans k42
                      show G 120 [some (.inr (.inr (40, 0))), some (.inl aa), none, none, some (.inr (.inl v4_52)), none, some (.inl v6_53), some (.inl v7_37)] [] 122 t62
                      have BA := br60.2
                      have RI := pm_RJ_c RI (fun i => Ft62 49 0 i rfl)
                      refine px_iinc hG dX11_riseUnrank_120 (Nat.le_of_ble_eq_true rfl) rfl (L2 := [some (.inr (.inr (40, 0))), some (.inl aa), none, none, some (.inr (.inl v4_52)), none, some (.inl v6_53), some (.inl (v7_37 + 1))]) rfl ?_
                      refine px_goto hG dX11_riseUnrank_123 (tgt := 61) (by decide) ?_
                      exact ih41 v4_52 v6_53 (v7_37 + 1) t62 Rt62 Ff64 k68 (⟨by omega, by omega, ⟨Jt62, by omega, by omega, by omega, by omega, by rw [show aa + 1 - (v7_37 + 1) = aa - VC by omega]; omega, RI⟩⟩) (by omega)
                    · refine px_lload hG dX11_riseUnrank_88 rfl ?_
                      refine px_aload_n hG dX11_riseUnrank_90 rfl ?_
                      refine gr_40_12 hG dX11_riseUnrank_91 fl_X11_39 R39 ?_
                      refine px_bipush hG dX11_riseUnrank_94 (by decide) ?_
                      refine px_iload hG dX11_riseUnrank_96 rfl ?_
                      refine px_iconst hG dX11_riseUnrank_98 ?_
                      refine px_iadd hG dX11_riseUnrank_99 ?_
                      refine px_imul hG dX11_riseUnrank_100 ?_
                      refine px_iload hG dX11_riseUnrank_101 rfl ?_
                      refine px_iadd hG dX11_riseUnrank_103 ?_
                      refine al_49 hG dX11_riseUnrank_104 (by omega) (fun z69 ez69 => ?_)
                      have X2 := ez69
                      have DN := pm_rw_dn (n := s0 40 0 1) (m := aa) (c := v7_37) (v := v6_53) (l := v4_52) (w := z69) V5 (by omega) (by omega) (by omega) (by omega)
                      refine px_lsub hG dX11_riseUnrank_105 ?_
                      refine px_lstore hG dX11_riseUnrank_106 (Nat.le_of_ble_eq_true rfl) (L2 := [some (.inr (.inr (40, 0))), some (.inl aa), none, none, some (.inr (.inl (v4_52 - z69))), none, some (.inl v6_53), some (.inl v7_37)]) rfl ?_
                      refine px_iinc hG dX11_riseUnrank_108 (Nat.le_of_ble_eq_true rfl) rfl (L2 := [some (.inr (.inr (40, 0))), some (.inl aa), none, none, some (.inr (.inl (v4_52 - z69))), none, some (.inl (v6_53 + 1)), some (.inl v7_37)]) rfl ?_
                      refine px_goto hG dX11_riseUnrank_111 (tgt := 67) (by decide) ?_
                      exact ih54 (v4_52 - z69) (v6_53 + 1) (⟨by omega, ⟨by omega, by omega, DN.2⟩⟩) (by omega)
                exact L67 _ v4_35 v6_36 (⟨by omega, ⟨V3, V4, V5⟩⟩) (Nat.lt_succ_self _)
          refine px_weak hG (L2 := [some (.inr (.inr (40, 0))), some (.inl aa), none, none, some (.inr (.inl rr)), none, some (.inl 1), some (.inl 1)]) ⟨Or.inr rfl, Or.inr rfl, Or.inl rfl, Or.inr rfl, Or.inr rfl, Or.inr rfl, Or.inr rfl, Or.inr rfl, trivial⟩ ?_
          exact L61 _ rr 1 1 s32 Rs32 Fs32 k33 (⟨by omega, by omega, ⟨Js32, by omega, by omega, by omega, by omega, by rw [show aa + 1 - 1 = aa by omega, show ((12 : Int) - 1).toNat = 11 from rfl]; omega, RI⟩⟩) (Nat.lt_succ_self _)
        · refine px_bipush hG dX11_riseUnrank_39 (by decide) ?_
          have jj70 := Ff12 40 0 0 rfl
          have jj71 := Ff12 40 0 1 rfl
          have jj72 := Ff12 40 0 2 rfl
          exact px_iret (st := []) hG dX11_riseUnrank_41 rfl rfl (fun aa_1 rr_1 ee => by cases ee; exact ⟨_, rfl, Rt10, Ff12, Jt10⟩)
      · refine px_iconst hG dX11_riseUnrank_30 ?_
        have jj73 := Ff12 40 0 0 rfl
        have jj74 := Ff12 40 0 1 rfl
        have jj75 := Ff12 40 0 2 rfl
        exact px_iret (st := []) hG dX11_riseUnrank_31 rfl rfl (fun aa_1 rr_1 ee => by cases ee; exact ⟨_, rfl, Rt10, Ff12, Jt10⟩))
