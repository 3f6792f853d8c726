/-! ===== the model: going through all rows ===== -/
def pm_p : Nat → Int
  | 0 => 1
  | k + 1 => 11 * pm_p k
def pm_pw (c : Int) : Int := pm_p (10 - c).toNat
def pm_vv (f : Int → Int) : Nat → Int
  | 0 => 0
  | k + 1 => pm_vv f k + f ((k : Int) + 1) * pm_pw ((k : Int) + 1)
theorem pm_p_pos (k : Nat) : 1 ≤ pm_p k := by
  induction k with
  | zero => exact Int.le_refl _
  | succ k ih => simp only [pm_p]; omega
theorem pm_pw_pos (c : Int) : 1 ≤ pm_pw c := pm_p_pos _
theorem pm_pw_s {c : Int} (h : c ≤ 10) : pm_pw (c - 1) = 11 * pm_pw c := by
  unfold pm_pw
  have e : (10 - (c - 1)).toNat = (10 - c).toNat + 1 := by omega
  rw [e]
  rfl
theorem pm_vv_cg {f g : Int → Int} {k : Nat} (h : ∀ i : Int, 1 ≤ i → i ≤ k → f i = g i) : pm_vv f k = pm_vv g k := by
  induction k with
  | zero => rfl
  | succ k ih =>
    simp only [pm_vv]
    rw [ih (fun i a b => h i a (by omega)), h ((k : Int) + 1) (by omega) (by omega)]
theorem pm_vv_eq {f g : Int → Int} (h : ∀ i : Int, f i = g i) {k : Nat} : pm_vv f k = pm_vv g k := pm_vv_cg (fun i _ _ => h i)
theorem pm_vv_up {f g : Int → Int} {c : Int} {k : Nat} (h1 : 1 ≤ c) (h2 : c ≤ k) (ho : ∀ i : Int, i ≠ c → g i = f i) : pm_vv g k = pm_vv f k + (g c - f c) * pm_pw c := by
  induction k with
  | zero => omega
  | succ k ih =>
    simp only [pm_vv]
    by_cases q : (k : Int) + 1 = c
    · rw [pm_vv_cg (f := g) (g := f) (k := k) (fun i a b => ho i (by omega)), q, Int.sub_mul]
      omega
    · rw [ih (by omega), ho _ q]
      omega
theorem pm_vv_lt {f : Int → Int} {k : Nat} (h : ∀ j : Int, 1 ≤ j → j ≤ k → f j ≤ 10) (hk : k ≤ 10) : pm_vv f k ≤ 25937424601 - pm_pw k := by
  induction k with
  | zero => exact (by decide : (0 : Int) ≤ 25937424601 - pm_pw ((0 : Nat) : Int))
  | succ k ih =>
    have a := ih (fun j a b => h j a (by omega)) (by omega)
    have b := pm_pw_s (c := (k : Int) + 1) (by omega)
    have c := Int.mul_le_mul_of_nonneg_right (h ((k : Int) + 1) (by omega) (by omega)) (Int.le_trans (by decide : (0 : Int) ≤ 1) (pm_pw_pos ((k : Int) + 1)))
    rw [show (k : Int) + 1 - 1 = k by omega] at b
    simp only [pm_vv]
    rw [show ((k + 1 : Nat) : Int) = (k : Int) + 1 by omega]
    omega
theorem pm_st1 {s s' : pm_H} {c : Int} {k : Nat} (e : s' = pm_up s 41 0 c 1) (hx : s 41 0 c ≤ 10) (h1 : 1 ≤ c) (h2 : c ≤ k) (h3 : k ≤ 10) : pm_vv (s 41 0) k + pm_pw c ≤ pm_vv (s' 41 0) k + pm_pw (c + -1) := by
  have a := pm_vv_up (f := s 41 0) (g := s' 41 0) h1 h2 (fun i q => pm_nei e q)
  have b : pm_pw (c + -1) = 11 * pm_pw c := pm_pw_s (c := c) (by omega)
  have p := pm_pw_pos c
  have d : (s 41 0 c) * pm_pw c ≤ 10 * pm_pw c := Int.mul_le_mul_of_nonneg_right hx (by omega)
  rw [pm_at e, Int.sub_mul, Int.one_mul] at a
  omega
theorem pm_st2 {s s' : pm_H} {c x : Int} {k : Nat} (e : s' = pm_up s 41 0 c (x + 1)) (hx : s 41 0 c = x) (h1 : 1 ≤ c) (h2 : c ≤ k) : pm_vv (s' 41 0) k = pm_vv (s 41 0) k + pm_pw c := by
  have a := pm_vv_up (f := s 41 0) (g := s' 41 0) h1 h2 (fun i q => pm_nei e q)
  rw [pm_at e, hx, show x + 1 - x = 1 by omega, Int.one_mul] at a
  exact a
def pm_wm (b m : Int) : Int := if b = 0 then 0 else m + 1
theorem pm_wm_lt {b b' vs vt vm B : Int} (h : b' = 0 ∨ b' = 1) (h1 : b' = 1 → vm + 1 ≤ vt) (hm : vm = vs) (hb : b ≠ 0) (hs : vs ≤ B) (_ : b = 0 ∨ b = 1) : (pm_wm b' (B - vt)).toNat < (pm_wm b (B - vs)).toNat := by
  unfold pm_wm
  rw [if_neg hb]
  rcases h with rfl | rfl
  · rw [if_pos rfl]
    omega
  · have := h1 rfl
    rw [if_neg (by decide)]
    omega
theorem pm_kstep {s s1 s2 : pm_H} {v x N : Int} (W : ∀ j : Int, 1 ≤ j → j < v → 1 ≤ s 45 0 j ∧ s 45 0 j ≤ N) (E1 : s1 = pm_up s 45 0 v x) (E2 : s2 = pm_up s1 41 0 v 1) (hx : 1 ≤ x ∧ x ≤ N) : ∀ j : Int, 1 ≤ j → j < v + 1 → 1 ≤ s2 45 0 j ∧ s2 45 0 j ≤ N := fun j h0 h1 => by
  rw [pm_nec E2 (by decide)]
  by_cases q : j = v
  · subst q
    rw [pm_at E1]
    exact hx
  · rw [pm_nei E1 q]
    exact W j h0 (by omega)
def pre_X11_step (as : List pm_V) (n : Nat) (σ : pm_H) : Prop := as = [.inr (.inr (40, 0))] ∧ n = 122 ∧ pm_Rng σ ∧ (pm_J2 σ)
def po_X11_step (as : List pm_V) (_ : Nat) (σ : pm_H) (r : Option pm_V) (τ : pm_H) : Prop := as = [.inr (.inr (40, 0))] → ∃ v : Int, r = some (.inl v) ∧ pm_Rng τ ∧ pm_Fr [(41, none)] σ τ ∧ (pm_J2 τ ∧ ((v = 0 ∨ v = 1) ∧ (v = 1 → pm_vv (σ 41 0) (σ 40 0 3).toNat + 1 ≤ pm_vv (τ 41 0) (σ 40 0 3).toNat)))
set_option maxRecDepth 20000 in
set_option maxHeartbeats 4000000 in
theorem ct_X11_step : pm_Ct yX11_step cX11_step 2 (some .boolean) 0 0 pre_X11_step po_X11_step := pm_sound (ini := false) (by decide +kernel) pk_X11_step (fun h => absurd h (by decide)) (by
  rintro as n s0 ⟨rfl, rfl, R0, hpre⟩
  refine ⟨by decide, Nat.le_of_ble_eq_true rfl, fun G hG => ?_⟩
  have hG : pm_Rules (RX11, 0, 122, cX11_step, -1, (fun _ => 0), false, (some .boolean), po_X11_step [.inr (.inr (40, 0))] 122 s0) G := hG
  show G 0 [some (.inr (.inr (40, 0))), none] [] 122 s0
  have B0 := pb_40_0 R0
  have B1 := pb_40_1 R0
  have B2 := pb_40_2 R0
  have B3 := pb_40_3 R0
  have J2 := hpre
  have JK := J2.1
  have JW := J2.2
  refine px_aload_n hG dX11_step_0 rfl ?_
  refine gi_40_3 hG dX11_step_1 fl_X11_110 R0 (fun x1 ex1 lx1 ux1 => ?_)
  refine px_istore_n hG dX11_step_4 (Nat.le_of_ble_eq_true rfl) (L2 := [some (.inr (.inr (40, 0))), some (.inl x1)]) rfl ?_
  have L5 : ∀ (N : Nat) (v1_2 : Int) (s3 : pm_H), pm_Rng s3 → pm_Fr [(41, none)] s0 s3 → s3 40 0 3 = x1 → ((-10000 ≤ v1_2 ∧ v1_2 ≤ x1) ∧ (pm_J2 s3 ∧ pm_vv (s0 41 0) (s0 40 0 3).toNat ≤ pm_vv (s3 41 0) (s0 40 0 3).toNat + pm_pw v1_2 - 1 ∧ 0 ≤ v1_2)) → (v1_2 + 10001).toNat < N → G 5 [some (.inr (.inr (40, 0))), some (.inl v1_2)] [] 122 s3 := by
    intro N
    induction N with
    | zero => intro v1_2 s3 R4 F5 k7 inv8 hm9; exact absurd hm9 (Nat.not_lt_zero _)
    | succ N ih6 =>
      intro v1_2 s3 R4 F5 k7 inv8 hm9
      have jj10 := F5 40 0 0 rfl
      have jj11 := F5 40 0 1 rfl
      have jj12 := F5 40 0 2 rfl
      have jj13 := F5 40 0 3 rfl
      have Js3 := (inv8.2).1
      have U := (inv8.2).2.1
      have U2 := (inv8.2).2.2
      refine px_iload_n hG dX11_step_5 rfl ?_
      refine px_iconst hG dX11_step_6 ?_
      refine px_ic_lt hG dX11_step_7 (tgt := 36) (by decide) ⟨by omega, by omega⟩ ⟨by omega, by omega⟩ (fun c14 => ?_) (fun c14 => ?_)
      · refine px_iload_n hG dX11_step_36 rfl ?_
        refine px_iconst hG dX11_step_37 ?_
        refine px_ic_lt hG dX11_step_38 (tgt := 51) (by decide) ⟨by omega, by omega⟩ ⟨by omega, by omega⟩ (fun c15 => ?_) (fun c15 => ?_)
        · refine px_iload_n hG dX11_step_51 rfl ?_
          refine px_iconst hG dX11_step_52 ?_
          refine px_ic_lt hG dX11_step_53 (tgt := 60) (by decide) ⟨by omega, by omega⟩ ⟨by omega, by omega⟩ (fun c16 => ?_) (fun c16 => ?_)
          · refine px_iconst hG dX11_step_60 ?_
            have jj17 := F5 40 0 0 rfl
            have jj18 := F5 40 0 1 rfl
            have jj19 := F5 40 0 2 rfl
            have jj20 := F5 40 0 3 rfl
            exact px_zret (st := []) hG dX11_step_61 rfl (by omega) rfl (fun _ => by exact ⟨_, rfl, R4, F5, ⟨Js3, by omega⟩⟩)
          · refine px_iconst hG dX11_step_56 ?_
            refine px_goto hG dX11_step_57 (tgt := 61) (by decide) ?_
            have jj21 := F5 40 0 0 rfl
            have jj22 := F5 40 0 1 rfl
            have jj23 := F5 40 0 2 rfl
            have jj24 := F5 40 0 3 rfl
            exact px_zret (st := []) hG dX11_step_61 rfl (by omega) rfl (fun _ => by exact ⟨_, rfl, R4, F5, ⟨Js3, by omega⟩⟩)
        · refine px_aload_n hG dX11_step_41 rfl ?_
          refine gr_40_4 hG dX11_step_42 fl_X11_13 R4 ?_
          refine px_iload_n hG dX11_step_45 rfl ?_
          refine px_dup2 hG dX11_step_46 ?_
          refine al_41 hG dX11_step_47 R4 (by omega) (fun x25 ex25 lx25 ux25 => ?_)
          have X3 := ex25
          refine px_iconst hG dX11_step_48 ?_
          refine px_iadd hG dX11_step_49 ?_
          refine as_41 hG dX11_step_50 R4 (by omega) (by omega) (fun s26 qs26 Rs26 => ?_)
          have Fs26 := pm_Fr_up (F5) qs26 (M := [(41, none)]) rfl
          have k27 : s26 40 0 3 = x1 := (pm_nec qs26 (by decide)).trans k7
          have jj28 := pm_nec qs26 (c' := 40) (r' := 0) (i' := 0) (by decide)
          have jj29 := pm_nec qs26 (c' := 40) (r' := 0) (i' := 1) (by decide)
          have jj30 := pm_nec qs26 (c' := 40) (r' := 0) (i' := 2) (by decide)
          have jj31 := pm_nec qs26 (c' := 40) (r' := 0) (i' := 3) (by decide)
          have Js26 := pm_J2_wish qs26 (by omega) (by omega) Js3
          have V := pm_st2 (k := (s0 40 0 3).toNat) qs26 X3 (by omega) (by omega)
          refine px_iload_n hG dX11_step_51 rfl ?_
          refine px_iconst hG dX11_step_52 ?_
          refine px_ic_lt hG dX11_step_53 (tgt := 60) (by decide) ⟨by omega, by omega⟩ ⟨by omega, by omega⟩ (fun c32 => ?_) (fun c32 => ?_)
          · refine px_iconst hG dX11_step_60 ?_
            have jj33 := Fs26 40 0 0 rfl
            have jj34 := Fs26 40 0 1 rfl
            have jj35 := Fs26 40 0 2 rfl
            have jj36 := Fs26 40 0 3 rfl
            exact px_zret (st := []) hG dX11_step_61 rfl (by omega) rfl (fun _ => by exact ⟨_, rfl, Rs26, Fs26, ⟨Js26, by omega⟩⟩)
          · refine px_iconst hG dX11_step_56 ?_
            refine px_goto hG dX11_step_57 (tgt := 61) (by decide) ?_
            have jj37 := Fs26 40 0 0 rfl
            have jj38 := Fs26 40 0 1 rfl
            have jj39 := Fs26 40 0 2 rfl
            have jj40 := Fs26 40 0 3 rfl
            exact px_zret (st := []) hG dX11_step_61 rfl (by omega) rfl (fun _ => by exact ⟨_, rfl, Rs26, Fs26, ⟨Js26, by omega⟩⟩)
      · refine px_aload_n hG dX11_step_10 rfl ?_
        refine gr_40_4 hG dX11_step_11 fl_X11_13 R4 ?_
        refine px_iload_n hG dX11_step_14 rfl ?_
        refine al_41 hG dX11_step_15 R4 (by omega) (fun x41 ex41 lx41 ux41 => ?_)
        have X1 := Js3.2 v1_2 (by omega) (by omega)
        have X0 := ex41
        refine px_aload_n hG dX11_step_16 rfl ?_
        refine gi_40_1 hG dX11_step_17 fl_X11_7 R4 (fun x42 ex42 lx42 ux42 => ?_)
        have ex42 : s0 40 0 1 = x42 := (F5 40 0 1 rfl).symm.trans ex42
        refine px_ic_ne hG dX11_step_20 (tgt := 36) (by decide) ⟨by omega, by omega⟩ ⟨by omega, by omega⟩ (fun c43 => ?_) (fun c43 => ?_)
        · refine px_iload_n hG dX11_step_36 rfl ?_
          refine px_iconst hG dX11_step_37 ?_
          refine px_ic_lt hG dX11_step_38 (tgt := 51) (by decide) ⟨by omega, by omega⟩ ⟨by omega, by omega⟩ (fun c44 => ?_) (fun c44 => ?_)
          · refine px_iload_n hG dX11_step_51 rfl ?_
            refine px_iconst hG dX11_step_52 ?_
            refine px_ic_lt hG dX11_step_53 (tgt := 60) (by decide) ⟨by omega, by omega⟩ ⟨by omega, by omega⟩ (fun c45 => ?_) (fun c45 => ?_)
            · refine px_iconst hG dX11_step_60 ?_
              have jj46 := F5 40 0 0 rfl
              have jj47 := F5 40 0 1 rfl
              have jj48 := F5 40 0 2 rfl
              have jj49 := F5 40 0 3 rfl
              exact px_zret (st := []) hG dX11_step_61 rfl (by omega) rfl (fun _ => by exact ⟨_, rfl, R4, F5, ⟨Js3, by omega⟩⟩)
            · refine px_iconst hG dX11_step_56 ?_
              refine px_goto hG dX11_step_57 (tgt := 61) (by decide) ?_
              have jj50 := F5 40 0 0 rfl
              have jj51 := F5 40 0 1 rfl
              have jj52 := F5 40 0 2 rfl
              have jj53 := F5 40 0 3 rfl
              exact px_zret (st := []) hG dX11_step_61 rfl (by omega) rfl (fun _ => by exact ⟨_, rfl, R4, F5, ⟨Js3, by omega⟩⟩)
          · refine px_aload_n hG dX11_step_41 rfl ?_
            refine gr_40_4 hG dX11_step_42 fl_X11_13 R4 ?_
            refine px_iload_n hG dX11_step_45 rfl ?_
            refine px_dup2 hG dX11_step_46 ?_
            refine al_41 hG dX11_step_47 R4 (by omega) (fun x54 ex54 lx54 ux54 => ?_)
            have X3 := ex54
            refine px_iconst hG dX11_step_48 ?_
            refine px_iadd hG dX11_step_49 ?_
            refine as_41 hG dX11_step_50 R4 (by omega) (by omega) (fun s55 qs55 Rs55 => ?_)
            have Fs55 := pm_Fr_up (F5) qs55 (M := [(41, none)]) rfl
            have k56 : s55 40 0 3 = x1 := (pm_nec qs55 (by decide)).trans k7
            have jj57 := pm_nec qs55 (c' := 40) (r' := 0) (i' := 0) (by decide)
            have jj58 := pm_nec qs55 (c' := 40) (r' := 0) (i' := 1) (by decide)
            have jj59 := pm_nec qs55 (c' := 40) (r' := 0) (i' := 2) (by decide)
            have jj60 := pm_nec qs55 (c' := 40) (r' := 0) (i' := 3) (by decide)
            have Js55 := pm_J2_wish qs55 (by omega) (by omega) Js3
            have V := pm_st2 (k := (s0 40 0 3).toNat) qs55 X3 (by omega) (by omega)
            refine px_iload_n hG dX11_step_51 rfl ?_
            refine px_iconst hG dX11_step_52 ?_
            refine px_ic_lt hG dX11_step_53 (tgt := 60) (by decide) ⟨by omega, by omega⟩ ⟨by omega, by omega⟩ (fun c61 => ?_) (fun c61 => ?_)
            · refine px_iconst hG dX11_step_60 ?_
              have jj62 := Fs55 40 0 0 rfl
              have jj63 := Fs55 40 0 1 rfl
              have jj64 := Fs55 40 0 2 rfl
              have jj65 := Fs55 40 0 3 rfl
              exact px_zret (st := []) hG dX11_step_61 rfl (by omega) rfl (fun _ => by exact ⟨_, rfl, Rs55, Fs55, ⟨Js55, by omega⟩⟩)
            · refine px_iconst hG dX11_step_56 ?_
              refine px_goto hG dX11_step_57 (tgt := 61) (by decide) ?_
              have jj66 := Fs55 40 0 0 rfl
              have jj67 := Fs55 40 0 1 rfl
              have jj68 := Fs55 40 0 2 rfl
              have jj69 := Fs55 40 0 3 rfl
              exact px_zret (st := []) hG dX11_step_61 rfl (by omega) rfl (fun _ => by exact ⟨_, rfl, Rs55, Fs55, ⟨Js55, by omega⟩⟩)
        · refine px_aload_n hG dX11_step_23 rfl ?_
          refine gr_40_4 hG dX11_step_24 fl_X11_13 R4 ?_
          refine px_iload_n hG dX11_step_27 rfl ?_
          refine px_iconst hG dX11_step_28 ?_
          refine as_41 hG dX11_step_29 R4 (by omega) (by omega) (fun s70 qs70 Rs70 => ?_)
          have Fs70 := pm_Fr_up (F5) qs70 (M := [(41, none)]) rfl
          have k71 : s70 40 0 3 = x1 := (pm_nec qs70 (by decide)).trans k7
          have jj72 := pm_nec qs70 (c' := 40) (r' := 0) (i' := 0) (by decide)
          have jj73 := pm_nec qs70 (c' := 40) (r' := 0) (i' := 1) (by decide)
          have jj74 := pm_nec qs70 (c' := 40) (r' := 0) (i' := 2) (by decide)
          have jj75 := pm_nec qs70 (c' := 40) (r' := 0) (i' := 3) (by decide)
          have Js70 := pm_J2_wish qs70 (by omega) (by omega) Js3
          have V := pm_st1 (k := (s0 40 0 3).toNat) qs70 (by omega) (by omega) (by omega) (by omega)
          refine px_iinc hG dX11_step_30 (Nat.le_of_ble_eq_true rfl) rfl (L2 := [some (.inr (.inr (40, 0))), some (.inl (v1_2 + -1))]) rfl ?_
          refine px_goto hG dX11_step_33 (tgt := 5) (by decide) ?_
          exact ih6 (v1_2 + -1) s70 Rs70 Fs70 k71 (⟨by omega, ⟨Js70, by omega, by omega⟩⟩) (by omega)
  exact L5 _ x1 s0 R0 pm_Fr_rf ex1 (⟨by omega, ⟨J2, by have P := pm_pw_pos x1; omega, by omega⟩⟩) (Nat.lt_succ_self _))
def pre_X11_ways (as : List pm_V) (n : Nat) (σ : pm_H) : Prop := as = [.inr (.inr (40, 0))] ∧ n = 122 ∧ pm_Rng σ ∧ (pm_J2 σ)
def po_X11_ways (as : List pm_V) (_ : Nat) (σ : pm_H) (r : Option pm_V) (τ : pm_H) : Prop := as = [.inr (.inr (40, 0))] → ∃ v : Int, r = some (.inl v) ∧ pm_Rng τ ∧ pm_Fr [(41, none), (43, none), (44, none), (45, none)] σ τ ∧ (pm_J2 τ)
set_option maxRecDepth 20000 in
set_option maxHeartbeats 4000000 in
theorem ct_X11_ways : pm_Ct yX11_ways cX11_ways 6 (some .int) 3 0 pre_X11_ways po_X11_ways := pm_sound (ini := false) (by decide +kernel) pk_X11_ways (fun h => absurd h (by decide)) (by
  rintro as n s0 ⟨rfl, rfl, R0, hpre⟩
  refine ⟨by decide, Nat.le_of_ble_eq_true rfl, fun G hG => ?_⟩
  have hG : pm_Rules (RX11, 3, 122, cX11_ways, -1, (fun _ => 0), false, (some .int), po_X11_ways [.inr (.inr (40, 0))] 122 s0) G := hG
  show G 0 [some (.inr (.inr (40, 0))), none, none, none, none, none] [] 122 s0
  have B0 := pb_40_0 R0
  have B1 := pb_40_1 R0
  have B2 := pb_40_2 R0
  have B3 := pb_40_3 R0
  have J2 := hpre
  have JK := J2.1
  have JW := J2.2
  refine px_lconst hG dX11_ways_0 ?_
  show G 1 [some (.inr (.inr (40, 0))), none, none, none, none, none] [.inr (.inl 1)] 122 s0
  refine px_lstore_n hG dX11_ways_1 (Nat.le_of_ble_eq_true rfl) (L2 := [some (.inr (.inr (40, 0))), some (.inr (.inl 1)), none, none, none, none]) rfl ?_
  refine px_iconst hG dX11_ways_2 ?_
  refine px_istore_n hG dX11_ways_3 (Nat.le_of_ble_eq_true rfl) (L2 := [some (.inr (.inr (40, 0))), some (.inr (.inl 1)), none, some (.inl 1), none, none]) rfl ?_
  have L4 : ∀ (N : Nat) (v1_1 : Int) (v3_2 : Int), ((1 ≤ v3_2 ∧ v3_2 ≤ 10000)) → (10001 - v3_2).toNat < N → G 4 [some (.inr (.inr (40, 0))), some (.inr (.inl v1_1)), none, some (.inl v3_2), none, none] [] 122 s0 := by
    intro N
    induction N with
    | zero => intro v1_1 v3_2 inv4 hm5; exact absurd hm5 (Nat.not_lt_zero _)
    | succ N ih3 =>
      intro v1_1 v3_2 inv4 hm5
      refine px_iload_n hG dX11_ways_4 rfl ?_
      refine px_aload_n hG dX11_ways_5 rfl ?_
      refine gi_40_3 hG dX11_ways_6 fl_X11_110 R0 (fun x6 ex6 lx6 ux6 => ?_)
      have J26_8 : ((v3_2 > x6)) → G 26 [some (.inr (.inr (40, 0))), some (.inr (.inl v1_1)), none, none, none, none] [] 122 s0 := by
        intro inv9
        refine px_lload_n hG dX11_ways_26 rfl ?_
        refine px_ldc2 hG dX11_ways_27 cn_X11_143 ?_
        show G 30 [some (.inr (.inr (40, 0))), some (.inr (.inl v1_1)), none, none, none, none] [.inr (.inl 100000), .inr (.inl v1_1)] 122 s0
        refine px_lcmpA hG dX11_ways_30 (fun x10 bx10 cx10 => ?_)
        refine px_if_le hG dX11_ways_31 (tgt := 37) (by decide) ⟨by omega, by omega⟩ (fun c11 => ?_) (fun c11 => ?_)
        · refine px_iconst hG dX11_ways_37 ?_
          refine px_istore_n hG dX11_ways_38 (Nat.le_of_ble_eq_true rfl) (L2 := [some (.inr (.inr (40, 0))), some (.inr (.inl v1_1)), none, some (.inl 1), none, none]) rfl ?_
          have L39 : ∀ (N : Nat) (v3_12 : Int) (s13 : pm_H), pm_Rng s13 → pm_Fr [(41, none), (43, none), (44, none), (45, none)] s0 s13 → s13 40 0 3 = x6 → ((1 ≤ v3_12 ∧ v3_12 ≤ 10000) ∧ (pm_J2 s13 ∧ (∀ j : Int, 1 ≤ j → j < v3_12 → 1 ≤ s13 45 0 j ∧ s13 45 0 j ≤ s0 40 0 1))) → (10001 - v3_12).toNat < N → G 39 [some (.inr (.inr (40, 0))), none, none, some (.inl v3_12), none, none] [] 122 s13 := by
            intro N
            induction N with
            | zero => intro v3_12 s13 R14 F15 k17 inv18 hm19; exact absurd hm19 (Nat.not_lt_zero _)
            | succ N ih16 =>
              intro v3_12 s13 R14 F15 k17 inv18 hm19
              have jj20 := F15 40 0 0 rfl
              have jj21 := F15 40 0 1 rfl
              have jj22 := F15 40 0 2 rfl
              have jj23 := F15 40 0 3 rfl
              have Js13 := (inv18.2).1
              have W := (inv18.2).2
              refine px_iload_n hG dX11_ways_39 rfl ?_
              refine px_aload_n hG dX11_ways_40 rfl ?_
              refine gi_40_3 hG dX11_ways_41 fl_X11_110 R14 (fun x24 ex24 lx24 ux24 => ?_)
              have ex24 : s0 40 0 3 = x24 := (F15 40 0 3 rfl).symm.trans ex24
              have J72_26 : ((v3_12 > x24)) → G 72 [some (.inr (.inr (40, 0))), none, none, none, none, none] [] 122 s13 := by
                intro inv27
                refine px_iconst hG dX11_ways_72 ?_
                refine px_istore_n hG dX11_ways_73 (Nat.le_of_ble_eq_true rfl) (L2 := [some (.inr (.inr (40, 0))), none, none, some (.inl 0), none, none]) rfl ?_
                refine px_iconst hG dX11_ways_74 ?_
                refine px_istore hG dX11_ways_75 (Nat.le_of_ble_eq_true rfl) (L2 := [some (.inr (.inr (40, 0))), none, none, some (.inl 0), some (.inl 1), none]) rfl ?_
                have L77 : ∀ (N : Nat) (v3_28 : Int) (v4_29 : Int) (s30 : pm_H), pm_Rng s30 → pm_Fr [(41, none), (43, none), (44, none), (45, none)] s0 s30 → s30 40 0 3 = x6 → ((pm_J2 s30 ∧ (∀ j : Int, 1 ≤ j → j ≤ s0 40 0 3 → 1 ≤ s30 45 0 j ∧ s30 45 0 j ≤ s0 40 0 1) ∧ (v4_29 = 0 ∨ v4_29 = 1))) → (pm_wm v4_29 (25937424601 - pm_vv (s30 41 0) (s0 40 0 3).toNat)).toNat < N → G 77 [some (.inr (.inr (40, 0))), none, none, some (.inl v3_28), some (.inl v4_29), none] [] 122 s30 := by
                  intro N
                  induction N with
                  | zero => intro v3_28 v4_29 s30 R31 F32 k34 inv35 hm36; exact absurd hm36 (Nat.not_lt_zero _)
                  | succ N ih33 =>
                    intro v3_28 v4_29 s30 R31 F32 k34 inv35 hm36
                    have jj37 := F32 40 0 0 rfl
                    have jj38 := F32 40 0 1 rfl
                    have jj39 := F32 40 0 2 rfl
                    have jj40 := F32 40 0 3 rfl
                    have Js30 := (inv35).1
                    have U := (inv35).2.1
                    have VB := pm_vv_lt (f := s30 41 0) (k := (s0 40 0 3).toNat) (fun j a b => by have := Js30.2 j a (by omega); omega) (by omega)
                    have PP := pm_pw_pos ((s0 40 0 3).toNat : Nat)
                    refine px_iload hG dX11_ways_77 rfl ?_
                    have J106_42 : ((v4_29 = 0)) → G 106 [some (.inr (.inr (40, 0))), none, none, some (.inl v3_28), none, none] [] 122 s30 := by
                      intro inv43
                      refine px_iconst hG dX11_ways_106 ?_
                      refine px_istore hG dX11_ways_107 (Nat.le_of_ble_eq_true rfl) (L2 := [some (.inr (.inr (40, 0))), none, none, some (.inl v3_28), none, some (.inl 1)]) rfl ?_
                      have L109 : ∀ (N : Nat) (v5_44 : Int) (s45 : pm_H), pm_Rng s45 → pm_Fr [(41, none), (43, none), (44, none), (45, none)] s0 s45 → s45 40 0 3 = x6 → ((1 ≤ v5_44 ∧ v5_44 ≤ 10000) ∧ (pm_J2 s45 ∧ (∀ j : Int, 1 ≤ j → j ≤ s0 40 0 3 → 1 ≤ s45 45 0 j ∧ s45 45 0 j ≤ s0 40 0 1))) → (10001 - v5_44).toNat < N → G 109 [some (.inr (.inr (40, 0))), none, none, some (.inl v3_28), none, some (.inl v5_44)] [] 122 s45 := by
                        intro N
                        induction N with
                        | zero => intro v5_44 s45 R46 F47 k49 inv50 hm51; exact absurd hm51 (Nat.not_lt_zero _)
                        | succ N ih48 =>
                          intro v5_44 s45 R46 F47 k49 inv50 hm51
                          have jj52 := F47 40 0 0 rfl
                          have jj53 := F47 40 0 1 rfl
                          have jj54 := F47 40 0 2 rfl
                          have jj55 := F47 40 0 3 rfl
                          have Js45 := (inv50.2).1
                          have W := (inv50.2).2
                          refine px_iload hG dX11_ways_109 rfl ?_
                          refine px_aload_n hG dX11_ways_111 rfl ?_
                          refine gi_40_3 hG dX11_ways_112 fl_X11_110 R46 (fun x56 ex56 lx56 ux56 => ?_)
                          have ex56 : s0 40 0 3 = x56 := (F47 40 0 3 rfl).symm.trans ex56
                          refine px_ic_gt hG dX11_ways_115 (tgt := 138) (by decide) ⟨by omega, by omega⟩ ⟨by omega, by omega⟩ (fun c57 => ?_) (fun c57 => ?_)
                          · refine px_iload_n hG dX11_ways_138 rfl ?_
                            have jj58 := F47 40 0 0 rfl
                            have jj59 := F47 40 0 1 rfl
                            have jj60 := F47 40 0 2 rfl
                            have jj61 := F47 40 0 3 rfl
                            exact px_iret (st := []) hG dX11_ways_139 rfl rfl (fun _ => by exact ⟨_, rfl, R46, F47, Js45⟩)
                          · refine px_aload_n hG dX11_ways_118 rfl ?_
                            refine gr_40_4 hG dX11_ways_119 fl_X11_13 R46 ?_
                            refine px_iload hG dX11_ways_122 rfl ?_
                            refine px_aload_n hG dX11_ways_124 rfl ?_
                            refine gr_40_8 hG dX11_ways_125 fl_X11_26 R46 ?_
                            refine px_iload hG dX11_ways_128 rfl ?_
                            refine al_45 hG dX11_ways_130 R46 (by omega) (fun x62 ex62 lx62 ux62 => ?_)
                            have X1 := W v5_44 (by omega) (by omega)
                            rw [ex62] at X1
                            refine as_41 hG dX11_ways_131 R46 (by omega) (by omega) (fun s63 qs63 Rs63 => ?_)
                            have Fs63 := pm_Fr_up (F47) qs63 (M := [(41, none), (43, none), (44, none), (45, none)]) rfl
                            have k64 : s63 40 0 3 = x6 := (pm_nec qs63 (by decide)).trans k49
                            have jj65 := pm_nec qs63 (c' := 40) (r' := 0) (i' := 0) (by decide)
                            have jj66 := pm_nec qs63 (c' := 40) (r' := 0) (i' := 1) (by decide)
                            have jj67 := pm_nec qs63 (c' := 40) (r' := 0) (i' := 2) (by decide)
                            have jj68 := pm_nec qs63 (c' := 40) (r' := 0) (i' := 3) (by decide)
                            have E3 := qs63
                            have Js63 := pm_J2_wish qs63 (by omega) (by omega) Js45
                            refine px_iinc hG dX11_ways_132 (Nat.le_of_ble_eq_true rfl) rfl (L2 := [some (.inr (.inr (40, 0))), none, none, some (.inl v3_28), none, some (.inl (v5_44 + 1))]) rfl ?_
                            refine px_goto hG dX11_ways_135 (tgt := 109) (by decide) ?_
                            exact ih48 (v5_44 + 1) s63 Rs63 Fs63 k64 (⟨by omega, ⟨Js63, fun j h0 h1 => by rw [pm_nec E3 (by decide)]; exact W j h0 h1⟩⟩) (by omega)
                      exact L109 _ 1 s30 R31 F32 k34 (⟨by omega, ⟨Js30, U⟩⟩) (Nat.lt_succ_self _)
                    refine px_if_eq hG dX11_ways_79 (tgt := 106) (by decide) ⟨by omega, by omega⟩ (fun c41 => ?_) (fun c41 => ?_)
                    · refine px_weak hG (L2 := [some (.inr (.inr (40, 0))), none, none, some (.inl v3_28), none, none]) ⟨Or.inr rfl, Or.inr rfl, Or.inr rfl, Or.inr rfl, Or.inl rfl, Or.inr rfl, trivial⟩ ?_
                      exact J106_42  (by omega)
                    · have WL := fun (b2 vm vt : Int) (h : b2 = 0 ∨ b2 = 1) (h1 : b2 = 1 → vm + 1 ≤ vt) (hm : vm = pm_vv (s30 41 0) (s0 40 0 3).toNat) => pm_wm_lt (b := v4_29) (B := 25937424601) h h1 hm (by omega) (by omega) (by omega)
                      refine px_iload_n hG dX11_ways_82 rfl ?_
                      refine px_aload_n hG dX11_ways_83 rfl ?_
                      refine jv0 hG dX11_ways_84 ct_X11_isGood lk_X11_139 ⟨rfl, rfl⟩ (by decide) ⟨Nat.le_of_ble_eq_true rfl, Nat.le_of_ble_eq_true rfl, Nat.le_of_ble_eq_true rfl⟩ (Nat.le_of_ble_eq_true rfl) ⟨rfl, rfl, R31, Js30⟩ (fun r69 t71 pr69 => ?_)
                      obtain ⟨x72, rfl, Rt71, Ft71, br69⟩ := pr69 rfl
                      have Ff73 := pm_Fr_tr F32 Ft71 (M := [(41, none), (43, none), (44, none), (45, none)]) rfl
                      have jj74 := Ft71 40 0 0 rfl
                      have jj75 := Ft71 40 0 1 rfl
                      have jj76 := Ft71 40 0 2 rfl
                      have jj77 := Ft71 40 0 3 rfl
                      have Jt71 := pm_J2_fr Ft71 rfl Js30
                      have k78 : t71 40 0 3 = x6 := (Ft71 40 0 3 rfl).trans k34
                      show G 87 [some (.inr (.inr (40, 0))), none, none, some (.inl v3_28), some (.inl v4_29), none] [.inl x72, .inl v3_28] 122 t71
                      have Q1 : ∀ i : Int, t71 41 0 i = s30 41 0 i := fun i => Ft71 41 0 i rfl
                      have QV := pm_vv_eq Q1 (k := (s0 40 0 3).toNat)
                      have Q3 : ∀ i : Int, t71 45 0 i = s30 45 0 i := fun i => Ft71 45 0 i rfl
                      have QK : t71 40 0 3 = s0 40 0 3 := by omega
                      have J95_81 : ∀ (j80 : Int), ((x72 = 0 ∧ j80 = 0) ∨ (¬ (x72 = 0) ∧ j80 = 1)) → G 95 [some (.inr (.inr (40, 0))), none, none, none, none, none] [.inl j80, .inl v3_28] 122 t71 := by
                        intro j80 inv82
                        refine px_iadd hG dX11_ways_95 ?_
                        refine px_istore_n hG dX11_ways_96 (Nat.le_of_ble_eq_true rfl) (L2 := [some (.inr (.inr (40, 0))), none, none, some (.inl (v3_28 + j80)), none, none]) rfl ?_
                        refine px_aload_n hG dX11_ways_97 rfl ?_
                        refine jv0 hG dX11_ways_98 ct_X11_step lk_X11_145 ⟨rfl, rfl⟩ (by decide) ⟨Nat.le_of_ble_eq_true rfl, Nat.le_of_ble_eq_true rfl, Nat.le_of_ble_eq_true rfl⟩ (Nat.le_of_ble_eq_true rfl) ⟨rfl, rfl, Rt71, Jt71⟩ (fun r83 t85 pr83 => ?_)
                        obtain ⟨x86, rfl, Rt85, Ft85, br83⟩ := pr83 rfl
                        have Ff87 := pm_Fr_tr Ff73 Ft85 (M := [(41, none), (43, none), (44, none), (45, none)]) rfl
                        have jj88 := Ft85 40 0 0 rfl
                        have jj89 := Ft85 40 0 1 rfl
                        have jj90 := Ft85 40 0 2 rfl
                        have jj91 := Ft85 40 0 3 rfl
                        have Jt85 : pm_J2 t85 := br83.1
                        have k92 : t85 40 0 3 = x6 := (Ft85 40 0 3 rfl).trans k78
                        show G 101 [some (.inr (.inr (40, 0))), none, none, some (.inl (v3_28 + j80)), none, none] [.inl x86] 122 t85
                        have SP := br83.2
                        rw [QK] at SP
                        have Q4 : ∀ i : Int, t85 45 0 i = t71 45 0 i := fun i => Ft85 45 0 i rfl
                        refine px_istore hG dX11_ways_101 (Nat.le_of_ble_eq_true rfl) (L2 := [some (.inr (.inr (40, 0))), none, none, some (.inl (v3_28 + j80)), some (.inl x86), none]) rfl ?_
                        refine px_goto hG dX11_ways_103 (tgt := 77) (by decide) ?_
                        exact ih33 (v3_28 + j80) x86 t85 Rt85 Ff87 k92 (⟨Jt85, fun j h0 h1 => by rw [Q4, Q3]; exact U j h0 h1, by omega⟩) (by have WL2 := WL _ _ _ SP.1 SP.2 QV; omega)
                      refine px_if_eq hG dX11_ways_87 (tgt := 94) (by decide) ⟨by omega, by omega⟩ (fun c79 => ?_) (fun c79 => ?_)
                      · refine px_iconst hG dX11_ways_94 ?_
                        refine px_weak hG (L2 := [some (.inr (.inr (40, 0))), none, none, none, none, none]) ⟨Or.inr rfl, Or.inr rfl, Or.inr rfl, Or.inl rfl, Or.inl rfl, Or.inr rfl, trivial⟩ ?_
                        exact J95_81 0 (by omega)
                      · refine px_iconst hG dX11_ways_90 ?_
                        refine px_goto hG dX11_ways_91 (tgt := 95) (by decide) ?_
                        refine px_weak hG (L2 := [some (.inr (.inr (40, 0))), none, none, none, none, none]) ⟨Or.inr rfl, Or.inr rfl, Or.inr rfl, Or.inl rfl, Or.inl rfl, Or.inr rfl, trivial⟩ ?_
                        exact J95_81 1 (by omega)
                exact L77 _ 0 1 s13 R14 F15 k17 (⟨Js13, fun j h0 h1 => W j h0 (by omega), by omega⟩) (Nat.lt_succ_self _)
              refine px_ic_gt hG dX11_ways_44 (tgt := 72) (by decide) ⟨by omega, by omega⟩ ⟨by omega, by omega⟩ (fun c25 => ?_) (fun c25 => ?_)
              · refine px_weak hG (L2 := [some (.inr (.inr (40, 0))), none, none, none, none, none]) ⟨Or.inr rfl, Or.inr rfl, Or.inr rfl, Or.inl rfl, Or.inr rfl, Or.inr rfl, trivial⟩ ?_
                exact J72_26  (by omega)
              · refine px_aload_n hG dX11_ways_47 rfl ?_
                refine gr_40_8 hG dX11_ways_48 fl_X11_26 R14 ?_
                refine px_iload_n hG dX11_ways_51 rfl ?_
                refine px_aload_n hG dX11_ways_52 rfl ?_
                refine gr_40_4 hG dX11_ways_53 fl_X11_13 R14 ?_
                refine px_iload_n hG dX11_ways_56 rfl ?_
                refine al_41 hG dX11_ways_57 R14 (by omega) (fun x93 ex93 lx93 ux93 => ?_)
                have X1 := Js13.2 v3_12 (by omega) (by omega)
                rw [ex93] at X1
                refine as_45 hG dX11_ways_58 R14 (by omega) (by omega) (fun s94 qs94 Rs94 => ?_)
                have Fs94 := pm_Fr_up (F15) qs94 (M := [(41, none), (43, none), (44, none), (45, none)]) rfl
                have k95 : s94 40 0 3 = x6 := (pm_nec qs94 (by decide)).trans k17
                have jj96 := pm_nec qs94 (c' := 40) (r' := 0) (i' := 0) (by decide)
                have jj97 := pm_nec qs94 (c' := 40) (r' := 0) (i' := 1) (by decide)
                have jj98 := pm_nec qs94 (c' := 40) (r' := 0) (i' := 2) (by decide)
                have jj99 := pm_nec qs94 (c' := 40) (r' := 0) (i' := 3) (by decide)
                have Js94 := pm_J2_up qs94 (by decide) (by decide) Js13
                have E1 := qs94
                refine px_aload_n hG dX11_ways_59 rfl ?_
                refine gr_40_4 hG dX11_ways_60 fl_X11_13 Rs94 ?_
                refine px_iload_n hG dX11_ways_63 rfl ?_
                refine px_iconst hG dX11_ways_64 ?_
                refine as_41 hG dX11_ways_65 Rs94 (by omega) (by omega) (fun s100 qs100 Rs100 => ?_)
                have Fs100 := pm_Fr_up (Fs94) qs100 (M := [(41, none), (43, none), (44, none), (45, none)]) rfl
                have k101 : s100 40 0 3 = x6 := (pm_nec qs100 (by decide)).trans k95
                have jj102 := pm_nec qs100 (c' := 40) (r' := 0) (i' := 0) (by decide)
                have jj103 := pm_nec qs100 (c' := 40) (r' := 0) (i' := 1) (by decide)
                have jj104 := pm_nec qs100 (c' := 40) (r' := 0) (i' := 2) (by decide)
                have jj105 := pm_nec qs100 (c' := 40) (r' := 0) (i' := 3) (by decide)
                have E2 := qs100
                have Js100 := pm_J2_wish qs100 (by omega) (by omega) Js94
                refine px_iinc hG dX11_ways_66 (Nat.le_of_ble_eq_true rfl) rfl (L2 := [some (.inr (.inr (40, 0))), none, none, some (.inl (v3_12 + 1)), none, none]) rfl ?_
                refine px_goto hG dX11_ways_69 (tgt := 39) (by decide) ?_
                exact ih16 (v3_12 + 1) s100 Rs100 Fs100 k101 (⟨by omega, ⟨Js100, pm_kstep W E1 E2 (by omega)⟩⟩) (by omega)
          refine px_weak hG (L2 := [some (.inr (.inr (40, 0))), none, none, some (.inl 1), none, none]) ⟨Or.inr rfl, Or.inl rfl, Or.inr rfl, Or.inr rfl, Or.inr rfl, Or.inr rfl, trivial⟩ ?_
          exact L39 _ 1 s0 R0 pm_Fr_rf ex6 (⟨by omega, ⟨J2, fun j h0 h1 => by omega⟩⟩) (Nat.lt_succ_self _)
        · refine px_bipush hG dX11_ways_34 (by decide) ?_
          exact px_iret (st := []) hG dX11_ways_36 rfl rfl (fun _ => by exact ⟨_, rfl, R0, pm_Fr_rf, J2⟩)
      refine px_ic_gt hG dX11_ways_9 (tgt := 26) (by decide) ⟨by omega, by omega⟩ ⟨by omega, by omega⟩ (fun c7 => ?_) (fun c7 => ?_)
      · refine px_weak hG (L2 := [some (.inr (.inr (40, 0))), some (.inr (.inl v1_1)), none, none, none, none]) ⟨Or.inr rfl, Or.inr rfl, Or.inr rfl, Or.inl rfl, Or.inr rfl, Or.inr rfl, trivial⟩ ?_
        exact J26_8  (by omega)
      · refine px_lload_n hG dX11_ways_12 rfl ?_
        refine px_aload_n hG dX11_ways_13 rfl ?_
        refine gi_40_1 hG dX11_ways_14 fl_X11_7 R0 (fun x106 ex106 lx106 ux106 => ?_)
        refine px_i2l hG dX11_ways_17 ⟨by omega, by omega⟩ ?_
        refine px_lmul hG dX11_ways_18 ?_
        refine px_lstore_n hG dX11_ways_19 (Nat.le_of_ble_eq_true rfl) (L2 := [some (.inr (.inr (40, 0))), some (.inr (.inl (v1_1 * x106))), none, some (.inl v3_2), none, none]) rfl ?_
        refine px_iinc hG dX11_ways_20 (Nat.le_of_ble_eq_true rfl) rfl (L2 := [some (.inr (.inr (40, 0))), some (.inr (.inl (v1_1 * x106))), none, some (.inl (v3_2 + 1)), none, none]) rfl ?_
        refine px_goto hG dX11_ways_23 (tgt := 4) (by decide) ?_
        exact ih3 (v1_1 * x106) (v3_2 + 1) (by omega) (by omega)
  exact L4 _ 1 1 (by omega) (Nat.lt_succ_self _))
