/-! ===== Sheets ===== -/
theorem pm_wstep {s : Int → Int} {f v le gr x y : Int} (W : ∀ j : Int, f ≤ j → j < v → le ≤ s j ∧ s j ≤ gr) (e : s v = x) (e2 : s v = y) (h : le ≤ x) (h2 : y ≤ gr) : ∀ j : Int, f ≤ j → j < v + 1 → le ≤ s j ∧ s j ≤ gr := fun j h0 h1 => by
  by_cases q : j = v
  · subst q
    exact ⟨by omega, by omega⟩
  · exact W j h0 (by omega)
def pre_X6_hasSheet (as : List pm_V) (n : Nat) (σ : pm_H) : Prop := ∃ sh : Int, as = [.inr (.inr (35, 0)), .inl sh] ∧ n = 122 ∧ pm_Rng σ ∧ (pm_in sh)
def po_X6_hasSheet (as : List pm_V) (_ : Nat) (σ : pm_H) (r : Option pm_V) (τ : pm_H) : Prop := ∀ sh : Int, as = [.inr (.inr (35, 0)), .inl sh] → ∃ v : Int, r = some (.inl v) ∧ σ = τ ∧ ((v = 0 ∨ v = 1) ∧ (v = 1 → 0 ≤ sh ∧ sh ≤ 3) ∧ (v = 0 → sh < 0 ∨ 3 < sh))
set_option maxRecDepth 20000 in
set_option maxHeartbeats 4000000 in
theorem ct_X6_hasSheet : pm_Ct yX6_hasSheet cX6_hasSheet 2 (some .boolean) 0 0 pre_X6_hasSheet po_X6_hasSheet := pm_sound (ini := false) (by decide +kernel) pk_X6_hasSheet (fun h => absurd h (by decide)) (by
  rintro as n s0 ⟨sh, rfl, rfl, R0, hpre⟩
  refine ⟨by decide, Nat.le_of_ble_eq_true rfl, fun G hG => ?_⟩
  have hG : pm_Rules (RX6, 0, 122, cX6_hasSheet, -1, (fun _ => 0), false, (some .boolean), po_X6_hasSheet [.inr (.inr (35, 0)), .inl sh] 122 s0) G := hG
  show G 0 [some (.inr (.inr (35, 0))), some (.inl sh)] [] 122 s0
  refine px_iload_n hG dX6_hasSheet_0 rfl ?_
  refine px_if_lt hG dX6_hasSheet_1 (tgt := 13) (by decide) ⟨by omega, by omega⟩ (fun c1 => ?_) (fun c1 => ?_)
  · refine px_iconst hG dX6_hasSheet_13 ?_
    exact px_zret (st := []) hG dX6_hasSheet_14 rfl (by omega) rfl (fun sh_1 ee => by cases ee; exact ⟨_, rfl, rfl, by omega⟩)
  · refine px_iload_n hG dX6_hasSheet_4 rfl ?_
    refine px_iconst hG dX6_hasSheet_5 ?_
    refine px_ic_ge hG dX6_hasSheet_6 (tgt := 13) (by decide) ⟨by omega, by omega⟩ ⟨by omega, by omega⟩ (fun c2 => ?_) (fun c2 => ?_)
    · refine px_iconst hG dX6_hasSheet_13 ?_
      exact px_zret (st := []) hG dX6_hasSheet_14 rfl (by omega) rfl (fun sh_1 ee => by cases ee; exact ⟨_, rfl, rfl, by omega⟩)
    · refine px_iconst hG dX6_hasSheet_9 ?_
      refine px_goto hG dX6_hasSheet_10 (tgt := 14) (by decide) ?_
      exact px_zret (st := []) hG dX6_hasSheet_14 rfl (by omega) rfl (fun sh_1 ee => by cases ee; exact ⟨_, rfl, rfl, by omega⟩))
def pre_X6_hasLane (as : List pm_V) (n : Nat) (σ : pm_H) : Prop := ∃ la : Int, as = [.inr (.inr (35, 0)), .inl la] ∧ n = 122 ∧ pm_Rng σ ∧ (pm_in la)
def po_X6_hasLane (as : List pm_V) (_ : Nat) (σ : pm_H) (r : Option pm_V) (τ : pm_H) : Prop := ∀ la : Int, as = [.inr (.inr (35, 0)), .inl la] → ∃ v : Int, r = some (.inl v) ∧ σ = τ ∧ ((v = 0 ∨ v = 1) ∧ (v = 1 → 0 ≤ la ∧ la ≤ 2) ∧ (v = 0 → la < 0 ∨ 2 < la))
set_option maxRecDepth 20000 in
set_option maxHeartbeats 4000000 in
theorem ct_X6_hasLane : pm_Ct yX6_hasLane cX6_hasLane 2 (some .boolean) 0 0 pre_X6_hasLane po_X6_hasLane := pm_sound (ini := false) (by decide +kernel) pk_X6_hasLane (fun h => absurd h (by decide)) (by
  rintro as n s0 ⟨la, rfl, rfl, R0, hpre⟩
  refine ⟨by decide, Nat.le_of_ble_eq_true rfl, fun G hG => ?_⟩
  have hG : pm_Rules (RX6, 0, 122, cX6_hasLane, -1, (fun _ => 0), false, (some .boolean), po_X6_hasLane [.inr (.inr (35, 0)), .inl la] 122 s0) G := hG
  show G 0 [some (.inr (.inr (35, 0))), some (.inl la)] [] 122 s0
  refine px_iload_n hG dX6_hasLane_0 rfl ?_
  refine px_if_lt hG dX6_hasLane_1 (tgt := 13) (by decide) ⟨by omega, by omega⟩ (fun c1 => ?_) (fun c1 => ?_)
  · refine px_iconst hG dX6_hasLane_13 ?_
    exact px_zret (st := []) hG dX6_hasLane_14 rfl (by omega) rfl (fun la_1 ee => by cases ee; exact ⟨_, rfl, rfl, by omega⟩)
  · refine px_iload_n hG dX6_hasLane_4 rfl ?_
    refine px_iconst hG dX6_hasLane_5 ?_
    refine px_ic_gt hG dX6_hasLane_6 (tgt := 13) (by decide) ⟨by omega, by omega⟩ ⟨by omega, by omega⟩ (fun c2 => ?_) (fun c2 => ?_)
    · refine px_iconst hG dX6_hasLane_13 ?_
      exact px_zret (st := []) hG dX6_hasLane_14 rfl (by omega) rfl (fun la_1 ee => by cases ee; exact ⟨_, rfl, rfl, by omega⟩)
    · refine px_iconst hG dX6_hasLane_9 ?_
      refine px_goto hG dX6_hasLane_10 (tgt := 14) (by decide) ?_
      exact px_zret (st := []) hG dX6_hasLane_14 rfl (by omega) rfl (fun la_1 ee => by cases ee; exact ⟨_, rfl, rfl, by omega⟩))
def pre_X6_holdsNothing (as : List pm_V) (n : Nat) (σ : pm_H) : Prop := ∃ sh : Int, as = [.inr (.inr (35, 0)), .inl sh] ∧ n = 122 ∧ pm_Rng σ ∧ (0 ≤ sh ∧ sh ≤ 3)
def po_X6_holdsNothing (as : List pm_V) (_ : Nat) (σ : pm_H) (r : Option pm_V) (τ : pm_H) : Prop := ∀ sh : Int, as = [.inr (.inr (35, 0)), .inl sh] → ∃ v : Int, r = some (.inl v) ∧ σ = τ ∧ ((v = 0 ∨ v = 1) ∧ (v = 1 → σ 36 0 sh = -1) ∧ (v = 0 → σ 36 0 sh ≠ -1))
set_option maxRecDepth 20000 in
set_option maxHeartbeats 4000000 in
theorem ct_X6_holdsNothing : pm_Ct yX6_holdsNothing cX6_holdsNothing 2 (some .boolean) 0 0 pre_X6_holdsNothing po_X6_holdsNothing := pm_sound (ini := false) (by decide +kernel) pk_X6_holdsNothing (fun h => absurd h (by decide)) (by
  rintro as n s0 ⟨sh, rfl, rfl, R0, hpre⟩
  refine ⟨by decide, Nat.le_of_ble_eq_true rfl, fun G hG => ?_⟩
  have hG : pm_Rules (RX6, 0, 122, cX6_holdsNothing, -1, (fun _ => 0), false, (some .boolean), po_X6_holdsNothing [.inr (.inr (35, 0)), .inl sh] 122 s0) G := hG
  show G 0 [some (.inr (.inr (35, 0))), some (.inl sh)] [] 122 s0
  refine px_aload_n hG dX6_holdsNothing_0 rfl ?_
  refine gr_35_0 hG dX6_holdsNothing_1 fl_X6_9 R0 ?_
  refine px_iload_n hG dX6_holdsNothing_4 rfl ?_
  refine al_36 hG dX6_holdsNothing_5 R0 (by omega) (fun x1 ex1 lx1 ux1 => ?_)
  refine px_iconst hG dX6_holdsNothing_6 ?_
  refine px_ic_ne hG dX6_holdsNothing_7 (tgt := 14) (by decide) ⟨by omega, by omega⟩ ⟨by omega, by omega⟩ (fun c2 => ?_) (fun c2 => ?_)
  · refine px_iconst hG dX6_holdsNothing_14 ?_
    exact px_zret (st := []) hG dX6_holdsNothing_15 rfl (by omega) rfl (fun sh_1 ee => by cases ee; exact ⟨_, rfl, rfl, by omega⟩)
  · refine px_iconst hG dX6_holdsNothing_10 ?_
    refine px_goto hG dX6_holdsNothing_11 (tgt := 15) (by decide) ?_
    exact px_zret (st := []) hG dX6_holdsNothing_15 rfl (by omega) rfl (fun sh_1 ee => by cases ee; exact ⟨_, rfl, rfl, by omega⟩))
def pre_X6_refusal (as : List pm_V) (n : Nat) (σ : pm_H) : Prop := ∃ sh la f0 sz : Int, as = [.inr (.inr (35, 0)), .inl sh, .inl la, .inl f0, .inl sz] ∧ n = 122 ∧ pm_Rng σ ∧ (pm_in sh ∧ pm_in la ∧ pm_in f0 ∧ -100 ≤ sz ∧ sz ≤ 1000)
def po_X6_refusal (as : List pm_V) (_ : Nat) (σ : pm_H) (r : Option pm_V) (τ : pm_H) : Prop := ∀ sh la f0 sz : Int, as = [.inr (.inr (35, 0)), .inl sh, .inl la, .inl f0, .inl sz] → ∃ v : Int, r = some (.inl v) ∧ σ = τ ∧ ((v = -1 ∧ (sh < 0 ∨ 3 < sh ∨ la < 0 ∨ 2 < la)) ∨ ((0 ≤ sh ∧ sh ≤ 3 ∧ 0 ≤ la ∧ la ≤ 2) ∧ ((v = -11 ∧ σ 36 0 sh = -1) ∨ (σ 36 0 sh ≠ -1 ∧ ((v = -12 ∧ σ 36 0 sh ≠ la) ∨ (σ 36 0 sh = la ∧ ((v = -13 ∧ (f0 < 0 ∨ σ 37 0 sh - sz < f0)) ∨ (v = 0 ∧ 0 ≤ f0 ∧ f0 ≤ σ 37 0 sh - sz ∧ σ 37 0 sh ≤ 20))))))))
set_option maxRecDepth 20000 in
set_option maxHeartbeats 4000000 in
theorem ct_X6_refusal : pm_Ct yX6_refusal cX6_refusal 5 (some .int) 1 0 pre_X6_refusal po_X6_refusal := pm_sound (ini := false) (by decide +kernel) pk_X6_refusal (fun h => absurd h (by decide)) (by
  rintro as n s0 ⟨sh, la, f0, sz, rfl, rfl, R0, hpre⟩
  refine ⟨by decide, Nat.le_of_ble_eq_true rfl, fun G hG => ?_⟩
  have hG : pm_Rules (RX6, 1, 122, cX6_refusal, -1, (fun _ => 0), false, (some .int), po_X6_refusal [.inr (.inr (35, 0)), .inl sh, .inl la, .inl f0, .inl sz] 122 s0) G := hG
  show G 0 [some (.inr (.inr (35, 0))), some (.inl sh), some (.inl la), some (.inl f0), some (.inl sz)] [] 122 s0
  refine px_aload_n hG dX6_refusal_0 rfl ?_
  refine px_iload_n hG dX6_refusal_1 rfl ?_
  refine jv1 hG dX6_refusal_2 ct_X6_hasSheet lk_X6_23 ⟨rfl, rfl⟩ (by decide) ⟨Nat.le_of_ble_eq_true rfl, Nat.le_of_ble_eq_true rfl, Nat.le_of_ble_eq_true rfl⟩ (Nat.le_of_ble_eq_true rfl) ⟨sh, rfl, rfl, R0, by omega⟩ (fun r1 t2 pr1 => ?_)
  obtain ⟨x3, rfl, rfl, br1⟩ := pr1 _ rfl
  show G 5 [some (.inr (.inr (35, 0))), some (.inl sh), some (.inl la), some (.inl f0), some (.inl sz)] [.inl x3] 122 s0
  refine px_if_eq hG dX6_refusal_5 (tgt := 16) (by decide) ⟨by omega, by omega⟩ (fun c4 => ?_) (fun c4 => ?_)
  · refine px_iconst hG dX6_refusal_16 ?_
    exact px_iret (st := []) hG dX6_refusal_17 rfl rfl (fun sh_1 la_1 f0_1 sz_1 ee => by cases ee; exact ⟨_, rfl, rfl, by omega⟩)
  · refine px_aload_n hG dX6_refusal_8 rfl ?_
    refine px_iload_n hG dX6_refusal_9 rfl ?_
    refine jv1 hG dX6_refusal_10 ct_X6_hasLane lk_X6_27 ⟨rfl, rfl⟩ (by decide) ⟨Nat.le_of_ble_eq_true rfl, Nat.le_of_ble_eq_true rfl, Nat.le_of_ble_eq_true rfl⟩ (Nat.le_of_ble_eq_true rfl) ⟨la, rfl, rfl, R0, by omega⟩ (fun r5 t6 pr5 => ?_)
    obtain ⟨x7, rfl, rfl, br5⟩ := pr5 _ rfl
    show G 13 [some (.inr (.inr (35, 0))), some (.inl sh), some (.inl la), some (.inl f0), some (.inl sz)] [.inl x7] 122 s0
    refine px_if_ne hG dX6_refusal_13 (tgt := 18) (by decide) ⟨by omega, by omega⟩ (fun c8 => ?_) (fun c8 => ?_)
    · refine px_aload_n hG dX6_refusal_18 rfl ?_
      refine px_iload_n hG dX6_refusal_19 rfl ?_
      refine jv1 hG dX6_refusal_20 ct_X6_holdsNothing lk_X6_30 ⟨rfl, rfl⟩ (by decide) ⟨Nat.le_of_ble_eq_true rfl, Nat.le_of_ble_eq_true rfl, Nat.le_of_ble_eq_true rfl⟩ (Nat.le_of_ble_eq_true rfl) ⟨sh, rfl, rfl, R0, by omega⟩ (fun r9 t10 pr9 => ?_)
      obtain ⟨x11, rfl, rfl, br9⟩ := pr9 _ rfl
      show G 23 [some (.inr (.inr (35, 0))), some (.inl sh), some (.inl la), some (.inl f0), some (.inl sz)] [.inl x11] 122 s0
      refine px_if_eq hG dX6_refusal_23 (tgt := 29) (by decide) ⟨by omega, by omega⟩ (fun c12 => ?_) (fun c12 => ?_)
      · refine px_aload_n hG dX6_refusal_29 rfl ?_
        refine gr_35_0 hG dX6_refusal_30 fl_X6_9 R0 ?_
        refine px_iload_n hG dX6_refusal_33 rfl ?_
        refine al_36 hG dX6_refusal_34 R0 (by omega) (fun x13 ex13 lx13 ux13 => ?_)
        refine px_iload_n hG dX6_refusal_35 rfl ?_
        refine px_ic_eq hG dX6_refusal_36 (tgt := 42) (by decide) ⟨by omega, by omega⟩ ⟨by omega, by omega⟩ (fun c14 => ?_) (fun c14 => ?_)
        · refine px_iload_n hG dX6_refusal_42 rfl ?_
          refine px_if_lt hG dX6_refusal_43 (tgt := 59) (by decide) ⟨by omega, by omega⟩ (fun c15 => ?_) (fun c15 => ?_)
          · refine px_bipush hG dX6_refusal_59 (by decide) ?_
            refine px_goto hG dX6_refusal_61 (tgt := 65) (by decide) ?_
            exact px_iret (st := []) hG dX6_refusal_65 rfl rfl (fun sh_1 la_1 f0_1 sz_1 ee => by cases ee; exact ⟨_, rfl, rfl, by omega⟩)
          · refine px_iload_n hG dX6_refusal_46 rfl ?_
            refine px_aload_n hG dX6_refusal_47 rfl ?_
            refine gr_35_1 hG dX6_refusal_48 fl_X6_15 R0 ?_
            refine px_iload_n hG dX6_refusal_51 rfl ?_
            refine al_37 hG dX6_refusal_52 R0 (by omega) (fun x16 ex16 lx16 ux16 => ?_)
            refine px_iload hG dX6_refusal_53 rfl ?_
            refine px_isub hG dX6_refusal_55 ?_
            refine px_ic_le hG dX6_refusal_56 (tgt := 64) (by decide) ⟨by omega, by omega⟩ ⟨by omega, by omega⟩ (fun c17 => ?_) (fun c17 => ?_)
            · refine px_iconst hG dX6_refusal_64 ?_
              exact px_iret (st := []) hG dX6_refusal_65 rfl rfl (fun sh_1 la_1 f0_1 sz_1 ee => by cases ee; exact ⟨_, rfl, rfl, by omega⟩)
            · refine px_bipush hG dX6_refusal_59 (by decide) ?_
              refine px_goto hG dX6_refusal_61 (tgt := 65) (by decide) ?_
              exact px_iret (st := []) hG dX6_refusal_65 rfl rfl (fun sh_1 la_1 f0_1 sz_1 ee => by cases ee; exact ⟨_, rfl, rfl, by omega⟩)
        · refine px_bipush hG dX6_refusal_39 (by decide) ?_
          exact px_iret (st := []) hG dX6_refusal_41 rfl rfl (fun sh_1 la_1 f0_1 sz_1 ee => by cases ee; exact ⟨_, rfl, rfl, by omega⟩)
      · refine px_bipush hG dX6_refusal_26 (by decide) ?_
        exact px_iret (st := []) hG dX6_refusal_28 rfl rfl (fun sh_1 la_1 f0_1 sz_1 ee => by cases ee; exact ⟨_, rfl, rfl, by omega⟩)
    · refine px_iconst hG dX6_refusal_16 ?_
      exact px_iret (st := []) hG dX6_refusal_17 rfl rfl (fun sh_1 la_1 f0_1 sz_1 ee => by cases ee; exact ⟨_, rfl, rfl, by omega⟩))
def pre_X6_renew (as : List pm_V) (n : Nat) (σ : pm_H) : Prop := ∃ sh la sz : Int, as = [.inr (.inr (35, 0)), .inl sh, .inl la, .inl sz] ∧ n = 122 ∧ pm_Rng σ ∧ (0 ≤ sh ∧ sh ≤ 3 ∧ 0 ≤ la ∧ la ≤ 2 ∧ 0 ≤ sz ∧ sz ≤ 20)
def po_X6_renew (as : List pm_V) (_ : Nat) (σ : pm_H) (r : Option pm_V) (τ : pm_H) : Prop := ∀ sh la sz : Int, as = [.inr (.inr (35, 0)), .inl sh, .inl la, .inl sz] → r = none ∧ pm_Rng τ ∧ pm_Fr [(36, none), (37, none), (38, none)] σ τ ∧ (τ 36 0 sh = la ∧ τ 37 0 sh = sz ∧ (∀ i : Int, i ≠ sh → τ 36 0 i = σ 36 0 i ∧ τ 37 0 i = σ 37 0 i))
set_option maxRecDepth 20000 in
set_option maxHeartbeats 4000000 in
theorem ct_X6_renew : pm_Ct yX6_renew cX6_renew 5 none 0 0 pre_X6_renew po_X6_renew := pm_sound (ini := false) (by decide +kernel) pk_X6_renew (fun h => absurd h (by decide)) (by
  rintro as n s0 ⟨sh, la, sz, rfl, rfl, R0, hpre⟩
  refine ⟨by decide, Nat.le_of_ble_eq_true rfl, fun G hG => ?_⟩
  have hG : pm_Rules (RX6, 0, 122, cX6_renew, -1, (fun _ => 0), false, none, po_X6_renew [.inr (.inr (35, 0)), .inl sh, .inl la, .inl sz] 122 s0) G := hG
  show G 0 [some (.inr (.inr (35, 0))), some (.inl sh), some (.inl la), some (.inl sz), none] [] 122 s0
  refine px_aload_n hG dX6_renew_0 rfl ?_
  refine gr_35_0 hG dX6_renew_1 fl_X6_9 R0 ?_
  refine px_iload_n hG dX6_renew_4 rfl ?_
  refine px_iload_n hG dX6_renew_5 rfl ?_
  refine as_36 hG dX6_renew_6 R0 (by omega) (by omega) (fun s1 qs1 Rs1 => ?_)
  have Fs1 := pm_Fr_up ((pm_Fr_rf : pm_Fr [(36, none), (37, none), (38, none)] s0 s0)) qs1 (M := [(36, none), (37, none), (38, none)]) rfl
  have E1 := qs1
  refine px_aload_n hG dX6_renew_7 rfl ?_
  refine gr_35_1 hG dX6_renew_8 fl_X6_15 Rs1 ?_
  refine px_iload_n hG dX6_renew_11 rfl ?_
  refine px_iload_n hG dX6_renew_12 rfl ?_
  refine as_37 hG dX6_renew_13 Rs1 (by omega) (by omega) (fun s2 qs2 Rs2 => ?_)
  have Fs2 := pm_Fr_up (Fs1) qs2 (M := [(36, none), (37, none), (38, none)]) rfl
  have E2 := qs2
  refine px_iconst hG dX6_renew_14 ?_
  refine px_istore hG dX6_renew_15 (Nat.le_of_ble_eq_true rfl) (L2 := [some (.inr (.inr (35, 0))), some (.inl sh), some (.inl la), some (.inl sz), some (.inl 0)]) rfl ?_
  have L17 : ∀ (N : Nat) (v4_3 : Int) (s4 : pm_H), pm_Rng s4 → pm_Fr [(36, none), (37, none), (38, none)] s0 s4 → ((0 ≤ v4_3 ∧ v4_3 ≤ 10000) ∧ (s4 36 0 sh = la ∧ s4 37 0 sh = sz ∧ (∀ i : Int, i ≠ sh → s4 36 0 i = s0 36 0 i ∧ s4 37 0 i = s0 37 0 i))) → (10001 - v4_3).toNat < N → G 17 [some (.inr (.inr (35, 0))), some (.inl sh), none, none, some (.inl v4_3)] [] 122 s4 := by
    intro N
    induction N with
    | zero => intro v4_3 s4 R5 F6 inv8 hm9; exact absurd hm9 (Nat.not_lt_zero _)
    | succ N ih7 =>
      intro v4_3 s4 R5 F6 inv8 hm9
      have W := inv8.2
      refine px_iload hG dX6_renew_17 rfl ?_
      refine px_bipush hG dX6_renew_19 (by decide) ?_
      refine px_ic_ge hG dX6_renew_21 (tgt := 40) (by decide) ⟨by omega, by omega⟩ ⟨by omega, by omega⟩ (fun c10 => ?_) (fun c10 => ?_)
      · exact px_vret (st := []) hG dX6_renew_40 rfl rfl (fun sh_1 la_1 sz_1 ee => by cases ee; exact ⟨rfl, R5, F6, W⟩)
      · refine px_aload_n hG dX6_renew_24 rfl ?_
        refine gr_35_2 hG dX6_renew_25 fl_X6_20 R5 ?_
        refine px_iload_n hG dX6_renew_28 rfl ?_
        refine aa_38 hG dX6_renew_29 (by omega) ?_
        refine px_iload hG dX6_renew_30 rfl ?_
        refine px_iconst hG dX6_renew_32 ?_
        refine as_38 hG dX6_renew_33 R5 (by omega) (by omega) (fun s11 qs11 Rs11 => ?_)
        have Fs11 := pm_Fr_up (F6) qs11 (M := [(36, none), (37, none), (38, none)]) rfl
        have E3 := qs11
        refine px_iinc hG dX6_renew_34 (Nat.le_of_ble_eq_true rfl) rfl (L2 := [some (.inr (.inr (35, 0))), some (.inl sh), none, none, some (.inl (v4_3 + 1))]) rfl ?_
        refine px_goto hG dX6_renew_37 (tgt := 17) (by decide) ?_
        exact ih7 (v4_3 + 1) s11 Rs11 Fs11 (⟨by omega, ⟨(pm_nec E3 (by decide)).trans W.1, (pm_nec E3 (by decide)).trans W.2.1, fun i h => ⟨(pm_nec E3 (by decide)).trans (W.2.2 i h).1, (pm_nec E3 (by decide)).trans (W.2.2 i h).2⟩⟩⟩) (by omega)
  refine px_weak hG (L2 := [some (.inr (.inr (35, 0))), some (.inl sh), none, none, some (.inl 0)]) ⟨Or.inr rfl, Or.inr rfl, Or.inl rfl, Or.inl rfl, Or.inr rfl, trivial⟩ ?_
  exact L17 _ 0 s2 Rs2 Fs2 (⟨by omega, ⟨(pm_nec E2 (by decide)).trans (pm_at E1), pm_at E2, fun i h => ⟨(pm_nec E2 (by decide)).trans (pm_nei E1 h), (pm_nei E2 h).trans (pm_nec E1 (by decide))⟩⟩⟩) (Nat.lt_succ_self _))
def pre_X6_remove (as : List pm_V) (n : Nat) (σ : pm_H) : Prop := ∃ sh : Int, as = [.inr (.inr (35, 0)), .inl sh] ∧ n = 122 ∧ pm_Rng σ ∧ (0 ≤ sh ∧ sh ≤ 3)
def po_X6_remove (as : List pm_V) (_ : Nat) (σ : pm_H) (r : Option pm_V) (τ : pm_H) : Prop := ∀ sh : Int, as = [.inr (.inr (35, 0)), .inl sh] → ∃ v : Int, r = some (.inl v) ∧ pm_Rng τ ∧ pm_Fr [(36, none)] σ τ ∧ (v = σ 37 0 sh ∧ τ 36 0 sh = -1 ∧ (∀ i : Int, i ≠ sh → τ 36 0 i = σ 36 0 i) ∧ 0 ≤ v ∧ v ≤ 20)
set_option maxRecDepth 20000 in
set_option maxHeartbeats 4000000 in
theorem ct_X6_remove : pm_Ct yX6_remove cX6_remove 2 (some .int) 0 0 pre_X6_remove po_X6_remove := pm_sound (ini := false) (by decide +kernel) pk_X6_remove (fun h => absurd h (by decide)) (by
  rintro as n s0 ⟨sh, rfl, rfl, R0, hpre⟩
  refine ⟨by decide, Nat.le_of_ble_eq_true rfl, fun G hG => ?_⟩
  have hG : pm_Rules (RX6, 0, 122, cX6_remove, -1, (fun _ => 0), false, (some .int), po_X6_remove [.inr (.inr (35, 0)), .inl sh] 122 s0) G := hG
  show G 0 [some (.inr (.inr (35, 0))), some (.inl sh)] [] 122 s0
  refine px_aload_n hG dX6_remove_0 rfl ?_
  refine gr_35_0 hG dX6_remove_1 fl_X6_9 R0 ?_
  refine px_iload_n hG dX6_remove_4 rfl ?_
  refine px_iconst hG dX6_remove_5 ?_
  refine as_36 hG dX6_remove_6 R0 (by omega) (by omega) (fun s1 qs1 Rs1 => ?_)
  have Fs1 := pm_Fr_up ((pm_Fr_rf : pm_Fr [(36, none)] s0 s0)) qs1 (M := [(36, none)]) rfl
  have E1 := qs1
  refine px_aload_n hG dX6_remove_7 rfl ?_
  refine gr_35_1 hG dX6_remove_8 fl_X6_15 Rs1 ?_
  refine px_iload_n hG dX6_remove_11 rfl ?_
  refine al_37 hG dX6_remove_12 Rs1 (by omega) (fun x2 ex2 lx2 ux2 => ?_)
  have EX := (pm_nec E1 (by decide)).symm.trans ex2
  exact px_iret (st := []) hG dX6_remove_13 rfl rfl (fun sh_1 ee => by cases ee; exact ⟨_, rfl, Rs1, Fs1, ⟨EX.symm, pm_at E1, fun i h => pm_nei E1 h, by omega, by omega⟩⟩))
def pre_X6_put (as : List pm_V) (n : Nat) (σ : pm_H) : Prop := ∃ sh i1 w1 : Int, as = [.inr (.inr (35, 0)), .inl sh, .inl i1, .inl w1] ∧ n = 122 ∧ pm_Rng σ ∧ (0 ≤ sh ∧ sh ≤ 3 ∧ 0 ≤ i1 ∧ i1 ≤ 19)
def po_X6_put (as : List pm_V) (_ : Nat) (σ : pm_H) (r : Option pm_V) (τ : pm_H) : Prop := ∀ sh i1 w1 : Int, as = [.inr (.inr (35, 0)), .inl sh, .inl i1, .inl w1] → r = none ∧ pm_Rng τ ∧ pm_Fr [(38, none)] σ τ
set_option maxRecDepth 20000 in
set_option maxHeartbeats 4000000 in
theorem ct_X6_put : pm_Ct yX6_put cX6_put 4 none 0 0 pre_X6_put po_X6_put := pm_sound (ini := false) (by decide +kernel) pk_X6_put (fun h => absurd h (by decide)) (by
  rintro as n s0 ⟨sh, i1, w1, rfl, rfl, R0, hpre⟩
  refine ⟨by decide, Nat.le_of_ble_eq_true rfl, fun G hG => ?_⟩
  have hG : pm_Rules (RX6, 0, 122, cX6_put, -1, (fun _ => 0), false, none, po_X6_put [.inr (.inr (35, 0)), .inl sh, .inl i1, .inl w1] 122 s0) G := hG
  show G 0 [some (.inr (.inr (35, 0))), some (.inl sh), some (.inl i1), some (.inl w1)] [] 122 s0
  refine px_aload_n hG dX6_put_0 rfl ?_
  refine gr_35_0 hG dX6_put_1 fl_X6_9 R0 ?_
  refine px_iload_n hG dX6_put_4 rfl ?_
  refine al_36 hG dX6_put_5 R0 (by omega) (fun x1 ex1 lx1 ux1 => ?_)
  refine px_lsw2 hG dX6_put_6 ⟨by omega, by omega⟩ (by decide) (fun c6_0 => ?_) (fun c6_1 => ?_) (fun c6_2 c6_3 => ?_)
  · show G 32 [some (.inr (.inr (35, 0))), some (.inl sh), some (.inl i1), some (.inl w1)] [] 122 s0
    refine px_aload_n hG dX6_put_32 rfl ?_
    refine gr_35_2 hG dX6_put_33 fl_X6_20 R0 ?_
    refine px_iload_n hG dX6_put_36 rfl ?_
    refine aa_38 hG dX6_put_37 (by omega) ?_
    refine px_iload_n hG dX6_put_38 rfl ?_
    refine px_iload_n hG dX6_put_39 rfl ?_
    refine px_i2b hG dX6_put_40 ?_
    generalize hx2 : pm_i2b w1 = x2
    have bx2 := pm_i2b_in w1 x2 hx2
    refine as_38 hG dX6_put_41 R0 (by omega) (by omega) (fun s3 qs3 Rs3 => ?_)
    have Fs3 := pm_Fr_up ((pm_Fr_rf : pm_Fr [(38, none)] s0 s0)) qs3 (M := [(38, none)]) rfl
    refine px_goto hG dX6_put_42 (tgt := 67) (by decide) ?_
    exact px_vret (st := []) hG dX6_put_67 rfl rfl (fun sh_1 i1_1 w1_1 ee => by cases ee; exact ⟨rfl, Rs3, Fs3⟩)
  · show G 45 [some (.inr (.inr (35, 0))), some (.inl sh), some (.inl i1), some (.inl w1)] [] 122 s0
    refine px_aload_n hG dX6_put_45 rfl ?_
    refine gr_35_2 hG dX6_put_46 fl_X6_20 R0 ?_
    refine px_iload_n hG dX6_put_49 rfl ?_
    refine aa_38 hG dX6_put_50 (by omega) ?_
    refine px_iload_n hG dX6_put_51 rfl ?_
    refine px_iload_n hG dX6_put_52 rfl ?_
    refine px_i2s hG dX6_put_53 ?_
    generalize hx4 : pm_i2s w1 = x4
    have bx4 := pm_i2s_in w1 x4 hx4
    refine as_38 hG dX6_put_54 R0 (by omega) (by omega) (fun s5 qs5 Rs5 => ?_)
    have Fs5 := pm_Fr_up ((pm_Fr_rf : pm_Fr [(38, none)] s0 s0)) qs5 (M := [(38, none)]) rfl
    refine px_goto hG dX6_put_55 (tgt := 67) (by decide) ?_
    exact px_vret (st := []) hG dX6_put_67 rfl rfl (fun sh_1 i1_1 w1_1 ee => by cases ee; exact ⟨rfl, Rs5, Fs5⟩)
  · show G 58 [some (.inr (.inr (35, 0))), some (.inl sh), some (.inl i1), some (.inl w1)] [] 122 s0
    refine px_aload_n hG dX6_put_58 rfl ?_
    refine gr_35_2 hG dX6_put_59 fl_X6_20 R0 ?_
    refine px_iload_n hG dX6_put_62 rfl ?_
    refine aa_38 hG dX6_put_63 (by omega) ?_
    refine px_iload_n hG dX6_put_64 rfl ?_
    refine px_iload_n hG dX6_put_65 rfl ?_
    refine as_38 hG dX6_put_66 R0 (by omega) (by omega) (fun s6 qs6 Rs6 => ?_)
    have Fs6 := pm_Fr_up ((pm_Fr_rf : pm_Fr [(38, none)] s0 s0)) qs6 (M := [(38, none)]) rfl
    exact px_vret (st := []) hG dX6_put_67 rfl rfl (fun sh_1 i1_1 w1_1 ee => by cases ee; exact ⟨rfl, Rs6, Fs6⟩))
def pre_X6_allWithin (as : List pm_V) (n : Nat) (σ : pm_H) : Prop := ∃ sh f0 sz le gr : Int, as = [.inr (.inr (35, 0)), .inl sh, .inl f0, .inl sz, .inl le, .inl gr] ∧ n = 122 ∧ pm_Rng σ ∧ (0 ≤ sh ∧ sh ≤ 3 ∧ 0 ≤ f0 ∧ 0 ≤ sz ∧ f0 + sz ≤ 20 ∧ pm_in le ∧ pm_in gr)
def po_X6_allWithin (as : List pm_V) (_ : Nat) (σ : pm_H) (r : Option pm_V) (τ : pm_H) : Prop := ∀ sh f0 sz le gr : Int, as = [.inr (.inr (35, 0)), .inl sh, .inl f0, .inl sz, .inl le, .inl gr] → ∃ v : Int, r = some (.inl v) ∧ σ = τ ∧ ((v = 0 ∨ v = 1) ∧ (v = 1 → ∀ j : Int, f0 ≤ j → j < f0 + sz → le ≤ σ 38 sh j ∧ σ 38 sh j ≤ gr))
set_option maxRecDepth 20000 in
set_option maxHeartbeats 4000000 in
theorem ct_X6_allWithin : pm_Ct yX6_allWithin cX6_allWithin 7 (some .boolean) 0 0 pre_X6_allWithin po_X6_allWithin := pm_sound (ini := false) (by decide +kernel) pk_X6_allWithin (fun h => absurd h (by decide)) (by
  rintro as n s0 ⟨sh, f0, sz, le, gr, rfl, rfl, R0, hpre⟩
  refine ⟨by decide, Nat.le_of_ble_eq_true rfl, fun G hG => ?_⟩
  have hG : pm_Rules (RX6, 0, 122, cX6_allWithin, -1, (fun _ => 0), false, (some .boolean), po_X6_allWithin [.inr (.inr (35, 0)), .inl sh, .inl f0, .inl sz, .inl le, .inl gr] 122 s0) G := hG
  show G 0 [some (.inr (.inr (35, 0))), some (.inl sh), some (.inl f0), some (.inl sz), some (.inl le), some (.inl gr), none] [] 122 s0
  refine px_iload_n hG dX6_allWithin_0 rfl ?_
  refine px_istore hG dX6_allWithin_1 (Nat.le_of_ble_eq_true rfl) (L2 := [some (.inr (.inr (35, 0))), some (.inl sh), some (.inl f0), some (.inl sz), some (.inl le), some (.inl gr), some (.inl f0)]) rfl ?_
  have L3 : ∀ (N : Nat) (v6_1 : Int), ((f0 ≤ v6_1 ∧ v6_1 ≤ 10000) ∧ (∀ j : Int, f0 ≤ j → j < v6_1 → le ≤ s0 38 sh j ∧ s0 38 sh j ≤ gr)) → (10001 - v6_1).toNat < N → G 3 [some (.inr (.inr (35, 0))), some (.inl sh), some (.inl f0), some (.inl sz), some (.inl le), some (.inl gr), some (.inl v6_1)] [] 122 s0 := by
    intro N
    induction N with
    | zero => intro v6_1 inv3 hm4; exact absurd hm4 (Nat.not_lt_zero _)
    | succ N ih2 =>
      intro v6_1 inv3 hm4
      have W := inv3.2
      have MX : True := trivial
      refine px_iload hG dX6_allWithin_3 rfl ?_
      refine px_iload_n hG dX6_allWithin_5 rfl ?_
      refine px_iload_n hG dX6_allWithin_6 rfl ?_
      refine px_iadd hG dX6_allWithin_7 ?_
      refine px_ic_ge hG dX6_allWithin_8 (tgt := 47) (by decide) ⟨by omega, by omega⟩ ⟨by omega, by omega⟩ (fun c5 => ?_) (fun c5 => ?_)
      · refine px_iconst hG dX6_allWithin_47 ?_
        exact px_zret (st := []) hG dX6_allWithin_48 rfl (by omega) rfl (fun sh_1 f0_1 sz_1 le_1 gr_1 ee => by cases ee; exact ⟨_, rfl, rfl, ⟨by omega, fun h j h0 h1 => W j h0 (by omega)⟩⟩)
      · refine px_aload_n hG dX6_allWithin_11 rfl ?_
        refine gr_35_2 hG dX6_allWithin_12 fl_X6_20 R0 ?_
        refine px_iload_n hG dX6_allWithin_15 rfl ?_
        refine aa_38 hG dX6_allWithin_16 (by omega) ?_
        refine px_iload hG dX6_allWithin_17 rfl ?_
        refine al_38 hG dX6_allWithin_19 R0 (by omega) (by omega) (fun x6 ex6 lx6 ux6 => ?_)
        have X1 := ex6
        refine px_iload hG dX6_allWithin_20 rfl ?_
        refine px_ic_lt hG dX6_allWithin_22 (tgt := 39) (by decide) ⟨by omega, by omega⟩ ⟨by omega, by omega⟩ (fun c7 => ?_) (fun c7 => ?_)
        · refine px_iconst hG dX6_allWithin_39 ?_
          exact px_zret (st := []) hG dX6_allWithin_40 rfl (by omega) rfl (fun sh_1 f0_1 sz_1 le_1 gr_1 ee => by cases ee; exact ⟨_, rfl, rfl, ⟨by omega, fun h => by omega⟩⟩)
        · refine px_aload_n hG dX6_allWithin_25 rfl ?_
          refine gr_35_2 hG dX6_allWithin_26 fl_X6_20 R0 ?_
          refine px_iload_n hG dX6_allWithin_29 rfl ?_
          refine aa_38 hG dX6_allWithin_30 (by omega) ?_
          refine px_iload hG dX6_allWithin_31 rfl ?_
          refine al_38 hG dX6_allWithin_33 R0 (by omega) (by omega) (fun x8 ex8 lx8 ux8 => ?_)
          have X2 := ex8
          refine px_iload hG dX6_allWithin_34 rfl ?_
          refine px_ic_le hG dX6_allWithin_36 (tgt := 41) (by decide) ⟨by omega, by omega⟩ ⟨by omega, by omega⟩ (fun c9 => ?_) (fun c9 => ?_)
          · refine px_iinc hG dX6_allWithin_41 (Nat.le_of_ble_eq_true rfl) rfl (L2 := [some (.inr (.inr (35, 0))), some (.inl sh), some (.inl f0), some (.inl sz), some (.inl le), some (.inl gr), some (.inl (v6_1 + 1))]) rfl ?_
            refine px_goto hG dX6_allWithin_44 (tgt := 3) (by decide) ?_
            exact ih2 (v6_1 + 1) (⟨by omega, fun j h0 h1 => pm_wstep W X1 X2 (by omega) (by omega) j h0 h1⟩) (by omega)
          · refine px_iconst hG dX6_allWithin_39 ?_
            exact px_zret (st := []) hG dX6_allWithin_40 rfl (by omega) rfl (fun sh_1 f0_1 sz_1 le_1 gr_1 ee => by cases ee; exact ⟨_, rfl, rfl, ⟨by omega, fun h => by omega⟩⟩)
  exact L3 _ f0 (⟨by omega, fun j h0 h1 => by omega⟩) (Nat.lt_succ_self _))
def pre_X6_copyTo (as : List pm_V) (n : Nat) (σ : pm_H) : Prop := ∃ sh f0 sz : Int, as = [.inr (.inr (35, 0)), .inr (.inr (39, 0)), .inl sh, .inl f0, .inl sz] ∧ n = 122 ∧ pm_Rng σ ∧ (0 ≤ sh ∧ sh ≤ 3 ∧ 0 ≤ f0 ∧ 0 ≤ sz ∧ sz ≤ 10 ∧ f0 + sz ≤ 20 ∧ (∀ j : Int, f0 ≤ j → j < f0 + sz → 0 ≤ σ 38 sh j ∧ σ 38 sh j ≤ 10))
def po_X6_copyTo (as : List pm_V) (_ : Nat) (σ : pm_H) (r : Option pm_V) (τ : pm_H) : Prop := ∀ sh f0 sz : Int, as = [.inr (.inr (35, 0)), .inr (.inr (39, 0)), .inl sh, .inl f0, .inl sz] → r = none ∧ pm_Rng τ ∧ pm_Fr [(39, none)] σ τ
set_option maxRecDepth 20000 in
set_option maxHeartbeats 4000000 in
theorem ct_X6_copyTo : pm_Ct yX6_copyTo cX6_copyTo 6 none 0 0 pre_X6_copyTo po_X6_copyTo := pm_sound (ini := false) (by decide +kernel) pk_X6_copyTo (fun h => absurd h (by decide)) (by
  rintro as n s0 ⟨sh, f0, sz, rfl, rfl, R0, hpre⟩
  refine ⟨by decide, Nat.le_of_ble_eq_true rfl, fun G hG => ?_⟩
  have hG : pm_Rules (RX6, 0, 122, cX6_copyTo, -1, (fun _ => 0), false, none, po_X6_copyTo [.inr (.inr (35, 0)), .inr (.inr (39, 0)), .inl sh, .inl f0, .inl sz] 122 s0) G := hG
  show G 0 [some (.inr (.inr (35, 0))), some (.inr (.inr (39, 0))), some (.inl sh), some (.inl f0), some (.inl sz), none] [] 122 s0
  refine px_iconst hG dX6_copyTo_0 ?_
  refine px_istore hG dX6_copyTo_1 (Nat.le_of_ble_eq_true rfl) (L2 := [some (.inr (.inr (35, 0))), some (.inr (.inr (39, 0))), some (.inl sh), some (.inl f0), some (.inl sz), some (.inl 1)]) rfl ?_
  have L3 : ∀ (N : Nat) (v5_1 : Int) (s2 : pm_H), pm_Rng s2 → pm_Fr [(39, none)] s0 s2 → ((1 ≤ v5_1 ∧ v5_1 ≤ 10000)) → (10001 - v5_1).toNat < N → G 3 [some (.inr (.inr (35, 0))), some (.inr (.inr (39, 0))), some (.inl sh), some (.inl f0), some (.inl sz), some (.inl v5_1)] [] 122 s2 := by
    intro N
    induction N with
    | zero => intro v5_1 s2 R3 F4 inv6 hm7; exact absurd hm7 (Nat.not_lt_zero _)
    | succ N ih5 =>
      intro v5_1 s2 R3 F4 inv6 hm7
      refine px_iload hG dX6_copyTo_3 rfl ?_
      refine px_iload hG dX6_copyTo_5 rfl ?_
      refine px_ic_gt hG dX6_copyTo_7 (tgt := 33) (by decide) ⟨by omega, by omega⟩ ⟨by omega, by omega⟩ (fun c8 => ?_) (fun c8 => ?_)
      · exact px_vret (st := []) hG dX6_copyTo_33 rfl rfl (fun sh_1 f0_1 sz_1 ee => by cases ee; exact ⟨rfl, R3, F4⟩)
      · refine px_aload_n hG dX6_copyTo_10 rfl ?_
        refine px_iload hG dX6_copyTo_11 rfl ?_
        refine px_aload_n hG dX6_copyTo_13 rfl ?_
        refine gr_35_2 hG dX6_copyTo_14 fl_X6_20 R3 ?_
        refine px_iload_n hG dX6_copyTo_17 rfl ?_
        refine aa_38 hG dX6_copyTo_18 (by omega) ?_
        refine px_iload_n hG dX6_copyTo_19 rfl ?_
        refine px_iload hG dX6_copyTo_20 rfl ?_
        refine px_iadd hG dX6_copyTo_22 ?_
        refine px_iconst hG dX6_copyTo_23 ?_
        refine px_isub hG dX6_copyTo_24 ?_
        refine al_38 hG dX6_copyTo_25 R3 (by omega) (by omega) (fun x9 ex9 lx9 ux9 => ?_)
        have X1 := ex9
        have X2 := F4 38 sh (f0 + v5_1 - 1) rfl
        have X3 := hpre.2.2.2.2.2.2 (f0 + v5_1 - 1) (by omega) (by omega)
        refine as_39 hG dX6_copyTo_26 R3 (by omega) (by omega) (fun s10 qs10 Rs10 => ?_)
        have Fs10 := pm_Fr_up (F4) qs10 (M := [(39, none)]) rfl
        refine px_iinc hG dX6_copyTo_27 (Nat.le_of_ble_eq_true rfl) rfl (L2 := [some (.inr (.inr (35, 0))), some (.inr (.inr (39, 0))), some (.inl sh), some (.inl f0), some (.inl sz), some (.inl (v5_1 + 1))]) rfl ?_
        refine px_goto hG dX6_copyTo_30 (tgt := 3) (by decide) ?_
        exact ih5 (v5_1 + 1) s10 Rs10 Fs10 (by omega) (by omega)
  exact L3 _ 1 s0 R0 pm_Fr_rf (by omega) (Nat.lt_succ_self _))
